@Part("Promise 7: condition")
public final class Promise07ConditionTest {
    public static void main(String[] args) {
        Sentences.run(Promise07ConditionTest.class);
    }

    @Says("A PAPER is wanted: true")
    static void papersOfTheEdges(Check check) {
        for (int paper : new int[] {0, 15}) {
            MeasureRows x = Made.oneRow(0, 9, 0);
            check.due("apply ahead", x.apply(100000, 0, 0, 0), 1);
            check.yes("condition(1, " + paper + ")", x.condition(1, paper));
            check.due("apply without it", x.apply(100000, 0, 0, 0), 0);
            x.papers(0xFFFF & ~(1 << paper));
            check.due("apply with all others", x.apply(100000, 0, 0, 0), 0);
            x.papers(1 << paper);
            check.due("apply with it", x.apply(100000, 0, 0, 0), 1);
        }
    }

    @Says("A PAPER is wanted: true")
    static void aPaperThatIsThereMayBeWanted(Check check) {
        MeasureRows x = Made.oneRow(0, 9, 0);
        x.papers(8);
        check.yes("condition(1, 3)", x.condition(1, 3));
        check.due("look(1, 9)", x.look(1, 9), 1);
        check.due("apply", x.apply(100000, 0, 0, 0), 1);
    }

    @Says("A PAPER is wanted: true")
    static void anotherRowWantsNone(Check check) {
        MeasureRows x = Made.rowsOfOneDay(2);
        x.condition(1, 3);
        check.due("look(2, 9)", x.look(2, 9), 0);
        check.due("apply of row 2", x.apply(100000, 0, 2, 0), 1);
    }

    @Says("false if there is no such row or paper")
    static void noSuchRow(Check check) {
        MeasureRows x = Made.rowsOfOneDay(2);
        for (int row : Edges.noRows(2)) {
            check.no("condition(" + row + ", 0)", x.condition(row, 0));
        }
        check.due("look(1, 9)", x.look(1, 9), 0);
        check.due("look(2, 9)", x.look(2, 9), 0);
        check.yes("condition(2, 0)", x.condition(2, 0));
    }

    @Says("false if there is no such row or paper")
    static void row81OfAFullObject(Check check) {
        MeasureRows x = Made.rowsOfOneDay(80);
        check.no("condition(81, 0)", x.condition(81, 0));
        check.no("condition(0, 0)", x.condition(0, 0));
        check.yes("condition(80, 0)", x.condition(80, 0));
    }

    @Says("false if there is no such row or paper")
    static void noSuchPaper(Check check) {
        MeasureRows x = Made.oneRow(0, 9, 0);
        for (int paper : Edges.NO_PAPERS) {
            check.no("condition(1, " + paper + ")", x.condition(1, paper));
        }
        check.due("look(1, 9)", x.look(1, 9), 0);
        check.due("apply, nothing being wanted", x.apply(100000, 0, 0, 0), 1);
    }

    @Says("it is so")
    static void theSamePaperAgain(Check check) {
        MeasureRows x = Made.oneRow(0, 9, 0);
        x.condition(1, 0);
        check.no("condition(1, 0) again", x.condition(1, 0));
        x.condition(1, 15);
        check.no("condition(1, 15) again", x.condition(1, 15));
        check.due("look(1, 9)", x.look(1, 9), 2);
        check.due("apply, wanted still", x.apply(100000, 0, 0, 0), 0);
    }

    @Says("or 4 are")
    static void theFourthComesAndTheFifthNot(Check check) {
        MeasureRows x = Made.oneRow(0, 9, 0);
        for (int paper : new int[] {15, 0, 7}) {
            check.yes("condition(1, " + paper + ")", x.condition(1, paper));
        }
        check.yes("the fourth", x.condition(1, 8));
        check.no("the fifth", x.condition(1, 9));
        check.no("the fifth again", x.condition(1, 1));
        check.no("one of the four", x.condition(1, 7));
        check.due("look(1, 9)", x.look(1, 9), 4);
        x.papers(1 << 9);
        check.due("the fifth is not wanted", x.apply(100000, 0, 0, 0), 0);
        x.papers(1 << 8);
        check.due("the fourth is", x.apply(100000, 0, 0, 0), 1);
    }

    @Says("or 4 are")
    static void eachRowHasFourOfItsOwn(Check check) {
        MeasureRows x = Made.rowsOfOneDay(2);
        for (int paper = 0; paper < 4; paper++) {
            x.condition(1, paper);
        }
        for (int paper = 0; paper < 4; paper++) {
            check.yes("condition(2, " + paper + ")", x.condition(2, paper));
        }
        check.no("condition(2, 4)", x.condition(2, 4));
    }

    @Says("or 4 are")
    static void landsTakeNoPapersRoom(Check check) {
        MeasureRows x = Made.oneRow(0, 9, 0);
        for (int land = 0; land < 4; land++) {
            x.exclude(1, land);
        }
        check.yes("condition(1, 0)", x.condition(1, 0));
        check.due("look(1, 9)", x.look(1, 9), 1);
    }
}
