@Part("Promise 5: row")
public final class Promise05RowTest {
    public static void main(String[] args) {
        Sentences.run(Promise05RowTest.class);
    }

    @Says("A row that becomes known on a day: its number")
    static void numbersGoFrom1To80(Check check) {
        MeasureRows x = new MeasureRows();
        for (int i = 1; i <= 80; i++) {
            check.due("row " + i, x.row(10, 0, i, i, 0, 0, 0), i);
        }
    }

    @Says("A row that becomes known on a day: its number")
    static void aRefusedRowUsesUpNoNumber(Check check) {
        MeasureRows x = Made.oneRow(5, 9, 0);
        x.row(10, Edges.ALL, 5, 9, 0, 0, 0);
        check.fails("no code", Edges.ARGUMENT, () -> x.row(9, 0, 0, 0, 0, 0, 0));
        check.due("the next number", x.row(11, 0, 5, 9, 0, 0, 0), 2);
    }

    @Says("A row that becomes known on a day")
    static void knownOnTheFirstAndTheLastDay(Check check) {
        MeasureRows x = new MeasureRows();
        x.row(10, 0, 5, 9, 0, 0, 0);
        x.row(11, 0, 5, 9, 0, 0, 10000);
        check.due("look(1, 6)", x.look(1, 6), 0);
        check.due("look(2, 6)", x.look(2, 6), 10000);
        check.due("apply as of 0", x.apply(100000, 0, 5, 0), 1);
        check.due("apply as of 9999", x.apply(110000, 0, 5, 9999), 0);
        check.due("apply as of 10000", x.apply(110000, 0, 5, 10000), 1);
    }

    @Says("A row that becomes known on a day")
    static void knownAheadOfItsDaysOrBehindThem(Check check) {
        MeasureRows x = new MeasureRows();
        check.due("known ahead of its first day", x.row(10, 0, 5, 9, 0, 0, 4), 1);
        check.due("known behind its last day", x.row(11, 0, 5, 9, 0, 0, 10), 2);
    }

    @Says("below 0 if it clashes: -1 less the least row with which it does")
    static void aClashWithRow1IsMinus2(Check check) {
        MeasureRows x = Made.oneRow(5, 9, 0);
        check.due("the same row again", x.row(10, Edges.ALL, 5, 9, 0, 0, 0), -2);
    }

    @Says("below 0 if it clashes: -1 less the least row with which it does")
    static void aClashWithRow79IsMinus80(Check check) {
        MeasureRows x = Made.rowsOfOneDay(79);
        check.due("row 79 again", x.row(10, 0, 79, 79, 0, 0, 0), -80);
        check.due("there is room for one still", x.row(10, 0, 80, 80, 0, 0, 0), 80);
    }

    @Says("the least row with which it does")
    static void theLeastOfSeveral(Check check) {
        MeasureRows x = new MeasureRows();
        x.row(10, 0, 20, 29, 0, 0, 0);
        x.row(10, 0, 10, 19, 0, 0, 0);
        x.row(10, 0, 0, 9, 0, 0, 0);
        check.due("with 1, 2 and 3", x.row(10, 0, 0, 29, 0, 0, 0), -2);
        check.due("with 1 and 2", x.row(10, 0, 15, 25, 0, 0, 0), -2);
        check.due("with 2 and 3", x.row(10, 0, 9, 10, 0, 0, 0), -3);
        check.due("with 3", x.row(10, 0, 9, 9, 0, 0, 0), -4);
    }

    @Says("IllegalArgumentException if a code, land, day, kind or rank can't be")
    static void aCodeThatCantBe(Check check) {
        MeasureRows x = new MeasureRows();
        for (int code : Edges.NO_CODES) {
            check.fails("code " + code, Edges.ARGUMENT, () -> x.row(code, 0, 0, 1, 0, 0, 0));
        }
        for (int code : Edges.EDGE_CODES) {
            check.yes("code " + code, x.row(code, 0, 0, 1, 0, 0, 0) > 0);
        }
    }

    @Says("IllegalArgumentException if a code, land, day, kind or rank can't be")
    static void aLandThatCantBe(Check check) {
        MeasureRows x = new MeasureRows();
        for (int land : Edges.NO_PLACES) {
            check.fails("land " + land, Edges.ARGUMENT, () -> x.row(10, land, 0, 1, 0, 0, 0));
        }
        for (int land : new int[] {0, 15, 16, 23, Edges.ALL}) {
            check.yes("land " + land, x.row(10, land, 0, 1, 0, 0, 0) > 0);
        }
    }

    @Says("IllegalArgumentException if a code, land, day, kind or rank can't be")
    static void aFirstDayThatCantBe(Check check) {
        MeasureRows x = new MeasureRows();
        for (int day : Edges.NO_DAYS) {
            check.fails("from " + day, Edges.ARGUMENT, () -> x.row(10, 0, day, Edges.OPEN, 0, 0, 0));
            check.fails("from and to " + day, Edges.ARGUMENT, () -> x.row(10, 0, day, day, 0, 0, 0));
        }
        check.due("from 0", x.row(10, 0, 0, 0, 0, 0, 0), 1);
        check.due("from 10000", x.row(10, 0, 10000, 10000, 0, 0, 0), 2);
    }

    @Says("IllegalArgumentException if a code, land, day, kind or rank can't be")
    static void aLastDayThatCantBe(Check check) {
        MeasureRows x = new MeasureRows();
        for (int day : Edges.NO_LAST_DAYS) {
            check.fails("to " + day, Edges.ARGUMENT, () -> x.row(10, 0, 0, day, 0, 0, 0));
        }
        check.due("to 10000", x.row(10, 0, 0, 10000, 0, 0, 0), 1);
        check.due("to OPEN", x.row(11, 0, 0, Edges.OPEN, 0, 0, 0), 2);
    }

    @Says("IllegalArgumentException if a code, land, day, kind or rank can't be")
    static void aKnownDayThatCantBe(Check check) {
        MeasureRows x = new MeasureRows();
        for (int day : Edges.NO_DAYS) {
            check.fails("known " + day, Edges.ARGUMENT, () -> x.row(10, 0, 0, 1, 0, 0, day));
        }
        check.due("known 0", x.row(10, 0, 0, 1, 0, 0, 0), 1);
        check.due("known 10000", x.row(11, 0, 0, 1, 0, 0, 10000), 2);
    }

    @Says("IllegalArgumentException if a code, land, day, kind or rank can't be")
    static void aKindThatCantBe(Check check) {
        MeasureRows x = new MeasureRows();
        for (int kind : new int[] {Edges.LEAST, -8, -1, 8, 9, 16, Edges.GREATEST}) {
            check.fails("kind " + kind, Edges.ARGUMENT, () -> x.row(10, 0, 0, 1, kind, 0, 0));
        }
        check.due("kind 0", x.row(10, 0, 0, 1, 0, 0, 0), 1);
        check.due("kind 7", x.row(10, 0, 0, 1, 7, 0, 0), 2);
    }

    @Says("IllegalArgumentException if a code, land, day, kind or rank can't be")
    static void aRankThatCantBe(Check check) {
        MeasureRows x = new MeasureRows();
        for (int rank : new int[] {Edges.LEAST, -10, -1, 10, 11, 100, Edges.GREATEST}) {
            check.fails("rank " + rank, Edges.ARGUMENT, () -> x.row(10, 0, 0, 1, 0, rank, 0));
        }
        check.due("rank 0", x.row(10, 0, 0, 1, 0, 0, 0), 1);
        check.due("rank 9", x.row(10, 0, 0, 1, 0, 9, 0), 2);
    }

    @Says("or it ends ahead of its first day")
    static void endsAheadOfItsFirstDay(Check check) {
        MeasureRows x = new MeasureRows();
        check.fails("6 .. 5", Edges.ARGUMENT, () -> x.row(10, 0, 6, 5, 0, 0, 0));
        check.fails("1 .. 0", Edges.ARGUMENT, () -> x.row(10, 0, 1, 0, 0, 0, 0));
        check.fails("10000 .. 9999", Edges.ARGUMENT, () -> x.row(10, 0, 10000, 9999, 0, 0, 0));
        check.fails("10000 .. 0", Edges.ARGUMENT, () -> x.row(10, 0, 10000, 0, 0, 0, 0));
    }

    @Says("or it ends ahead of its first day")
    static void endsOnItsFirstDay(Check check) {
        MeasureRows x = new MeasureRows();
        check.due("0 .. 0", x.row(10, 0, 0, 0, 0, 0, 0), 1);
        check.due("6 .. 6", x.row(10, 0, 6, 6, 0, 0, 0), 2);
        check.due("10000 .. 10000", x.row(10, 0, 10000, 10000, 0, 0, 0), 3);
        check.due("10000 .. OPEN", x.row(11, 0, 10000, Edges.OPEN, 0, 0, 0), 4);
    }

    @Says("or it ends ahead of its first day")
    static void aRowThatWouldClashButEndsAhead(Check check) {
        MeasureRows x = Made.oneRow(5, 9, 0);
        check.fails("8 .. 6", Edges.ARGUMENT, () -> x.row(10, Edges.ALL, 8, 6, 0, 0, 0));
    }

    @Says("IllegalStateException if there are 80")
    static void the80thComesAndThe81stThrows(Check check) {
        MeasureRows x = Made.rowsOfOneDay(79);
        check.due("the 80th", x.row(10, 0, 80, 80, 0, 0, 0), 80);
        check.fails("the 81st", Edges.STATE, () -> x.row(10, 0, 81, 81, 0, 0, 5));
        check.fails("the 81st again", Edges.STATE, () -> x.row(99, 31, 0, Edges.OPEN, 7, 9, 5));
        check.due("count(0)", x.count(0), 80);
        check.due("count(1)", x.count(1), 0);
        check.due("look(80, 2)", x.look(80, 2), 80);
    }

    @Says("IllegalStateException if there are 80")
    static void the81stThrowsWhereItWouldClash(Check check) {
        MeasureRows x = Made.rowsOfOneDay(80);
        check.fails("row 1 again", Edges.STATE, () -> x.row(10, 0, 1, 1, 0, 0, 0));
        check.fails("row 80 again", Edges.STATE, () -> x.row(10, 0, 80, 80, 0, 0, 0));
    }
}
