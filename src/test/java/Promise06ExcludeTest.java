@Part("Promise 6: exclude")
public final class Promise06ExcludeTest {
    public static void main(String[] args) {
        Sentences.run(Promise06ExcludeTest.class);
    }

    @Says("A land is EXCLUDED: true")
    static void landsOfTheEdges(Check check) {
        MeasureRows x = Made.oneRow(0, 9, 0);
        check.due("scan of 0 ahead", x.scan(10, 0, 0), 1);
        check.yes("exclude(1, 0)", x.exclude(1, 0));
        check.due("scan of 0", x.scan(10, 0, 0), 0);
        check.due("scan of 1", x.scan(10, 1, 0), 1);
        check.yes("exclude(1, 15)", x.exclude(1, 15));
        check.due("scan of 15", x.scan(10, 15, 0), 0);
        check.due("scan of 14", x.scan(10, 14, 0), 1);
    }

    @Says("A land is EXCLUDED: true")
    static void aLandOfWhichTheRowIsNot(Check check) {
        MeasureRows x = new MeasureRows();
        x.row(10, 2, 0, 9, 0, 0, 0);
        check.yes("exclude(1, 9)", x.exclude(1, 9));
        check.due("look(1, 8)", x.look(1, 8), 1);
        check.due("scan of 2", x.scan(10, 2, 0), 1);
    }

    @Says("A land is EXCLUDED: true")
    static void theRowsOwnLand(Check check) {
        MeasureRows x = new MeasureRows();
        x.row(10, 2, 0, 9, 0, 0, 0);
        check.yes("exclude(1, 2)", x.exclude(1, 2));
        check.due("scan of 2", x.scan(10, 2, 0), 0);
    }

    @Says("A land is EXCLUDED: true")
    static void anotherRowKeepsTheLand(Check check) {
        MeasureRows x = new MeasureRows();
        x.row(10, 2, 0, 9, 0, 0, 0);
        x.row(11, 2, 0, 9, 0, 0, 0);
        x.exclude(1, 2);
        check.due("look(2, 8)", x.look(2, 8), 0);
        check.due("scan of row 2", x.scan(11, 2, 0), 1);
    }

    @Says("false if there is no such row or land")
    static void noSuchRow(Check check) {
        MeasureRows x = Made.rowsOfOneDay(2);
        for (int row : Edges.noRows(2)) {
            check.no("exclude(" + row + ", 0)", x.exclude(row, 0));
        }
        check.due("look(1, 8)", x.look(1, 8), 0);
        check.due("look(2, 8)", x.look(2, 8), 0);
        check.yes("exclude(2, 0)", x.exclude(2, 0));
    }

    @Says("false if there is no such row or land")
    static void row81OfAFullObject(Check check) {
        MeasureRows x = Made.rowsOfOneDay(80);
        check.no("exclude(81, 0)", x.exclude(81, 0));
        check.no("exclude(0, 0)", x.exclude(0, 0));
        check.yes("exclude(80, 0)", x.exclude(80, 0));
    }

    @Says("false if there is no such row or land")
    static void noSuchLand(Check check) {
        MeasureRows x = Made.oneRow(0, 9, 0);
        for (int land : Edges.NO_LANDS) {
            check.no("exclude(1, " + land + ")", x.exclude(1, land));
        }
        check.due("look(1, 8)", x.look(1, 8), 0);
        for (int land = 0; land <= 15; land++) {
            check.due("scan of " + land, x.scan(10, land, 0), 1);
        }
    }

    @Says("false if there is no such row or land")
    static void aGroupIsNoLand(Check check) {
        MeasureRows x = new MeasureRows();
        x.member(16, 3);
        x.row(10, 16, 0, 9, 0, 0, 0);
        check.no("exclude(1, 16)", x.exclude(1, 16));
        check.due("scan of 3", x.scan(10, 3, 0), 1);
    }

    @Says("it is so")
    static void theSameLandAgain(Check check) {
        MeasureRows x = Made.oneRow(0, 9, 0);
        x.exclude(1, 0);
        check.no("exclude(1, 0) again", x.exclude(1, 0));
        x.exclude(1, 15);
        check.no("exclude(1, 15) again", x.exclude(1, 15));
        check.due("look(1, 8)", x.look(1, 8), 2);
        check.due("scan of 0, excluded still", x.scan(10, 0, 0), 0);
    }

    @Says("or 4 are")
    static void theFourthComesAndTheFifthNot(Check check) {
        MeasureRows x = Made.oneRow(0, 9, 0);
        for (int land : new int[] {15, 0, 7}) {
            check.yes("exclude(1, " + land + ")", x.exclude(1, land));
        }
        check.yes("the fourth", x.exclude(1, 8));
        check.no("the fifth", x.exclude(1, 9));
        check.no("the fifth again", x.exclude(1, 1));
        check.no("one of the four", x.exclude(1, 7));
        check.due("look(1, 8)", x.look(1, 8), 4);
        check.due("the fifth is not excluded", x.scan(10, 9, 0), 1);
        check.due("the fourth is", x.scan(10, 8, 0), 0);
    }

    @Says("or 4 are")
    static void eachRowHasFourOfItsOwn(Check check) {
        MeasureRows x = Made.rowsOfOneDay(2);
        for (int land = 0; land < 4; land++) {
            x.exclude(1, land);
        }
        for (int land = 0; land < 4; land++) {
            check.yes("exclude(2, " + land + ")", x.exclude(2, land));
        }
        check.no("exclude(2, 4)", x.exclude(2, 4));
    }

    @Says("or 4 are")
    static void papersTakeNoLandsRoom(Check check) {
        MeasureRows x = Made.oneRow(0, 9, 0);
        for (int paper = 0; paper < 4; paper++) {
            x.condition(1, paper);
        }
        check.yes("exclude(1, 0)", x.exclude(1, 0));
        check.due("look(1, 8)", x.look(1, 8), 1);
    }
}
