@Part("Promise 9: papers")
public final class Promise09PapersTest {
    public static void main(String[] args) {
        Sentences.run(Promise09PapersTest.class);
    }

    @Says("The papers that are there")
    static void inThePlaceOfTheEarlierOnes(Check check) {
        MeasureRows x = new MeasureRows();
        x.papers(5);
        check.due("papers(5)", x.count(3), 5);
        x.papers(2);
        check.due("papers(2)", x.count(3), 2);
        x.papers(2);
        check.due("papers(2) again", x.count(3), 2);
    }

    @Says("The papers that are there")
    static void noneAgain(Check check) {
        MeasureRows x = Made.oneRow(0, 9, 0);
        x.condition(1, 0);
        x.papers(1);
        check.due("apply with it", x.apply(100000, 0, 0, 0), 1);
        x.papers(0);
        check.due("papers(0)", x.count(3), 0);
        check.due("apply without it", x.apply(100000, 0, 0, 0), 0);
    }

    @Says("as bits")
    static void bit0AndBit15(Check check) {
        MeasureRows x = new MeasureRows();
        x.papers(1);
        check.due("papers(1)", x.count(3), 1);
        x.papers(0x8000);
        check.due("papers(0x8000)", x.count(3), 0x8000);
        x.papers(0xFFFF);
        check.due("papers(0xFFFF)", x.count(3), 0xFFFF);
    }

    @Says("as bits")
    static void bitsPast15AreNoPapers(Check check) {
        MeasureRows x = new MeasureRows();
        x.papers(0x10000);
        check.due("papers(0x10000)", x.count(3), 0);
        x.papers(0x18001);
        check.due("papers(0x18001)", x.count(3), 0x8001);
        x.papers(Edges.GREATEST);
        check.due("papers(greatest)", x.count(3), 0xFFFF);
    }

    @Says("as bits")
    static void bitsOfNumbersBelow0(Check check) {
        MeasureRows x = new MeasureRows();
        x.papers(-1);
        check.due("papers(-1)", x.count(3), 0xFFFF);
        x.papers(-2);
        check.due("papers(-2)", x.count(3), 0xFFFE);
        x.papers(Edges.LEAST);
        check.due("papers(least)", x.count(3), 0);
    }

    @Says("as bits")
    static void bitsPast15MakeNoRowApply(Check check) {
        MeasureRows x = Made.oneRow(0, 9, 0);
        x.condition(1, 0);
        x.condition(1, 15);
        x.papers(0xFFFF0000);
        check.due("apply", x.apply(100000, 0, 0, 0), 0);
    }
}
