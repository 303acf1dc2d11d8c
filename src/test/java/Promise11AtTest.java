@Part("Promise 11: at")
public final class Promise11AtTest {
    public static void main(String[] args) {
        Sentences.run(Promise11AtTest.class);
    }

    @Says("The i-th row (from 0) of the latest list")
    static void theFirstIs0(Check check) {
        MeasureRows x = Made.rowsOfOneDay(3);
        x.end(2, 3, 0);
        x.scan(10, 0, 3);
        check.due("at(0)", x.at(0), 2);
        check.due("at(1)", x.at(1), 3);
    }

    @Says("The i-th row (from 0) of the latest list")
    static void theLastOf80Is79(Check check) {
        MeasureRows x = Made.fullOfLand5();
        x.scan(10, 5, 0);
        check.due("at(0)", x.at(0), 1);
        check.due("at(79)", x.at(79), 80);
    }

    @Says("of the latest list")
    static void aLaterListTakesTheEarlierOnesPlace(Check check) {
        MeasureRows x = new MeasureRows();
        x.row(10, 0, 0, 9, 4, 0, 0);
        x.row(10, 0, 5, 9, 3, 0, 0);
        x.apply(100000, 0, 5, 0);
        check.list("by apply", x, 2, 1);
        x.scan(10, 0, 5);
        check.list("by scan", x, 1, 2);
        x.apply(100000, 0, 0, 0);
        check.list("by apply, a shorter one", x, 1);
    }

    @Says("of the latest list")
    static void theListStaysAsItWasMade(Check check) {
        MeasureRows x = Made.oneRow(0, 9, 0);
        x.scan(10, 0, 0);
        x.exclude(1, 0);
        x.condition(1, 0);
        x.end(1, 0, 5);
        x.row(10, 0, 0, 9, 1, 0, 0);
        x.change(0, 9, 0);
        x.papers(1);
        x.member(16, 0);
        check.list("scan", x, 1);
    }

    @Says("of the latest list")
    static void anAnswerOf0MakesNoList(Check check) {
        MeasureRows x = Made.oneRow(0, 9, 0);
        x.scan(10, 0, 0);
        check.due("scan of another code", x.scan(20, 0, 0), 0);
        check.list("after scan", x, 1);
        check.due("apply to another code", x.apply(200000, 0, 0, 0), 0);
        check.list("after apply", x, 1);
    }

    @Says("NONE for none")
    static void noListYet(Check check) {
        MeasureRows x = Made.oneRow(0, 9, 0);
        for (int i : new int[] {Edges.LEAST, -1, 0, 1, 79, 80, Edges.GREATEST}) {
            check.due("at(" + i + ")", x.at(i), Edges.NONE);
        }
    }

    @Says("NONE for none")
    static void besideTheList(Check check) {
        MeasureRows x = Made.rowsOfOneDay(3);
        x.scan(10, 0, 2);
        check.due("at(0)", x.at(0), 2);
        for (int i : new int[] {Edges.LEAST, -80, -1, 1, 2, 79, 80, 81, Edges.GREATEST}) {
            check.due("at(" + i + ")", x.at(i), Edges.NONE);
        }
    }

    @Says("NONE for none")
    static void besideAFullList(Check check) {
        MeasureRows x = Made.fullOfLand5();
        x.scan(10, 5, 0);
        for (int i : new int[] {Edges.LEAST, -1, 80, 81, Edges.GREATEST}) {
            check.due("at(" + i + ")", x.at(i), Edges.NONE);
        }
    }

    @Says("NONE for none")
    static void whereALongerListHadOne(Check check) {
        MeasureRows x = Made.fullOfLand5();
        x.scan(10, 5, 0);
        x.scan(10, 6, 0);
        check.due("at(39)", x.at(39), 40);
        check.due("at(40)", x.at(40), Edges.NONE);
        check.due("at(79)", x.at(79), Edges.NONE);
    }
}
