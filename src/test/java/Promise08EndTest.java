@Part("Promise 8: end")
public final class Promise08EndTest {
    public static void main(String[] args) {
        Sentences.run(Promise08EndTest.class);
    }

    @Says("A last day is told for a row, known from a day on")
    static void knownFromThatDayOnAndNotAheadOfIt(Check check) {
        MeasureRows x = Made.oneRow(5, 9, 0);
        x.end(1, 7, 30);
        check.due("day 9 as of 29", x.apply(100000, 0, 9, 29), 1);
        check.due("day 8 as of 30", x.apply(100000, 0, 8, 30), 0);
        check.due("day 7 as of 30", x.apply(100000, 0, 7, 30), 1);
        check.due("day 8 as of 10000", x.apply(100000, 0, 8, 10000), 0);
    }

    @Says("A last day is told for a row, known from a day on")
    static void ofTheOneRowAlone(Check check) {
        MeasureRows x = Made.rowsOfOneDay(3);
        x.end(2, 50, 0);
        check.due("look(1, 3)", x.look(1, 3), 1);
        check.due("look(2, 3)", x.look(2, 3), 50);
        check.due("look(3, 3)", x.look(3, 3), 3);
        check.due("look(1, 7)", x.look(1, 7), 1);
        check.due("look(3, 7)", x.look(3, 7), 1);
    }

    @Says("A last day is told for a row, known from a day on")
    static void theRowsOwnDaysStay(Check check) {
        MeasureRows x = Made.oneRow(5, 9, 20);
        x.end(1, 7, 30);
        check.due("look(1, 2)", x.look(1, 2), 5);
        check.due("look(1, 6)", x.look(1, 6), 20);
    }

    @Says("A last day is told for a row, known from a day on")
    static void aLongerRowMayReachAnotherOneLikeIt(Check check) {
        MeasureRows x = Made.rowsOfOneDay(2);
        check.due("row 1 reaches row 2", x.end(1, 2, 0), 2);
        check.due("look(1, 3)", x.look(1, 3), 2);
    }

    @Says("how many were told of it (with the first one)")
    static void theFirstOneToldLaterIsTheSecond(Check check) {
        MeasureRows x = Made.oneRow(5, 9, 0);
        check.due("look(1, 7)", x.look(1, 7), 1);
        check.due("end", x.end(1, 7, 0), 2);
        check.due("look(1, 7)", x.look(1, 7), 2);
    }

    @Says("how many were told of it (with the first one)")
    static void theSameLastDayCountsAgain(Check check) {
        MeasureRows x = Made.oneRow(5, 9, 0);
        check.due("end", x.end(1, 9, 0), 2);
        check.due("end again", x.end(1, 9, 0), 3);
    }

    @Says("how many were told of it (with the first one)")
    static void upToTheEighth(Check check) {
        MeasureRows x = Made.rowsOfOneDay(2);
        for (int told = 2; told <= 8; told++) {
            check.due("end of row 1", x.end(1, 10 + told, told), told);
        }
        check.due("end of row 2", x.end(2, 5, 0), 2);
    }

    @Says("0 if it is ahead of its first day")
    static void theDayAheadOfItsFirstDay(Check check) {
        MeasureRows x = Made.oneRow(5, 9, 20);
        check.due("day 4", x.end(1, 4, 30), 0);
        check.due("day 0", x.end(1, 0, 30), 0);
        check.due("look(1, 3)", x.look(1, 3), 9);
        check.due("look(1, 7)", x.look(1, 7), 1);
        check.due("count(1)", x.count(1), 20);
    }

    @Says("0 if it is ahead of its first day")
    static void itsFirstDayItself(Check check) {
        MeasureRows x = new MeasureRows();
        x.row(10, 0, 0, 9, 0, 0, 0);
        x.row(11, 0, 10000, Edges.OPEN, 0, 0, 0);
        check.due("day 0", x.end(1, 0, 0), 2);
        check.due("look(1, 3)", x.look(1, 3), 0);
        check.due("day 9999", x.end(2, 9999, 0), 0);
        check.due("day 10000", x.end(2, 10000, 0), 2);
        check.due("look(2, 3)", x.look(2, 3), 10000);
    }

    @Says("IndexOutOfBoundsException if there is no such row")
    static void noSuchRow(Check check) {
        MeasureRows x = Made.rowsOfOneDay(2);
        for (int row : Edges.noRows(2)) {
            check.fails("end(" + row + ", 7, 1)", Edges.INDEX, () -> x.end(row, 7, 1));
        }
        check.due("count(1)", x.count(1), 0);
        check.due("end(2, 7, 1)", x.end(2, 7, 1), 2);
    }

    @Says("IndexOutOfBoundsException if there is no such row")
    static void row81OfAFullObject(Check check) {
        MeasureRows x = Made.rowsOfOneDay(80);
        check.fails("end(81, 90, 1)", Edges.INDEX, () -> x.end(81, 90, 1));
        check.fails("end(0, 90, 1)", Edges.INDEX, () -> x.end(0, 90, 1));
        check.due("end(80, 90, 1)", x.end(80, 90, 1), 2);
    }

    @Says("IllegalArgumentException if there are no such days")
    static void noSuchLastDay(Check check) {
        MeasureRows x = Made.oneRow(5, 9, 0);
        for (int day : Edges.NO_LAST_DAYS) {
            check.fails("end(1, " + day + ", 1)", Edges.ARGUMENT, () -> x.end(1, day, 1));
        }
        check.due("look(1, 7)", x.look(1, 7), 1);
        check.due("end(1, 10000, 1)", x.end(1, 10000, 1), 2);
    }

    @Says("IllegalArgumentException if there are no such days")
    static void noSuchKnownDay(Check check) {
        MeasureRows x = Made.oneRow(5, 9, 0);
        for (int day : Edges.NO_DAYS) {
            check.fails("end(1, 7, " + day + ")", Edges.ARGUMENT, () -> x.end(1, 7, day));
            check.fails("end(1, 4, " + day + "), ahead of its first day", Edges.ARGUMENT, () -> x.end(1, 4, day));
        }
        check.due("look(1, 7)", x.look(1, 7), 1);
        check.due("end(1, 7, 0)", x.end(1, 7, 0), 2);
        check.due("end(1, 7, 10000)", x.end(1, 7, 10000), 3);
    }

    @Says("(OPEN may be told as the last one)")
    static void openAsTheLastDayAndNotAsTheKnownOne(Check check) {
        MeasureRows x = Made.oneRow(5, 9, 0);
        check.due("end(1, OPEN, 1)", x.end(1, Edges.OPEN, 1), 2);
        check.due("look(1, 3)", x.look(1, 3), Edges.OPEN);
        check.due("scan of day 10000", x.scan(10, 0, 10000), 1);
        check.fails("end(1, OPEN, OPEN)", Edges.ARGUMENT, () -> x.end(1, Edges.OPEN, Edges.OPEN));
    }

    @Says("IllegalStateException if 8 were told of it")
    static void theEighthComesAndTheNinthThrows(Check check) {
        MeasureRows x = Made.eightTold();
        check.due("look(1, 7)", x.look(1, 7), 8);
        check.due("look(1, 3), the eighth", x.look(1, 3), 18);
        check.fails("the ninth", Edges.STATE, () -> x.end(1, 30, 30));
        check.fails("the ninth, OPEN", Edges.STATE, () -> x.end(1, Edges.OPEN, 0));
        check.due("look(1, 3)", x.look(1, 3), 18);
        check.due("look(1, 7)", x.look(1, 7), 8);
        check.due("count(1)", x.count(1), 8);
    }

    @Says("IllegalStateException if 8 were told of it")
    static void theNinthThrowsAheadOfTheFirstDay(Check check) {
        MeasureRows x = Made.eightTold();
        check.fails("the ninth, of day 4", Edges.STATE, () -> x.end(1, 4, 30));
    }

    @Says("IllegalStateException if 8 were told of it")
    static void refusedOnesWereNotTold(Check check) {
        MeasureRows x = Made.oneRow(5, 9, 0);
        for (int i = 0; i < 10; i++) {
            check.due("day 4", x.end(1, 4, 1), 0);
            check.fails("day -1", Edges.ARGUMENT, () -> x.end(1, -1, 1));
        }
        check.due("day 7", x.end(1, 7, 1), 2);
    }

    @Says("IllegalStateException if 8 were told of it")
    static void anotherRowHasRoomStill(Check check) {
        MeasureRows x = Made.eightTold();
        x.row(11, 0, 5, 9, 0, 0, 0);
        check.due("end(2, 7, 1)", x.end(2, 7, 1), 2);
    }
}
