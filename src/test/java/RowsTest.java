/** Promises 5 to 8 and 14, and of 15 the rows and NOW. */
public final class RowsTest {
    private static final Class<IndexOutOfBoundsException> INDEX = IndexOutOfBoundsException.class;
    private static final Class<IllegalArgumentException> ARGUMENT = IllegalArgumentException.class;
    private static final Class<IllegalStateException> STATE = IllegalStateException.class;
    private static final int OPEN = MeasureRows.OPEN;
    private static final int[] NO_DAYS = {Integer.MIN_VALUE, -1, 10001, 19999, 20001, Integer.MAX_VALUE};

    private final Check check = new Check();

    public static void main(String[] args) {
        RowsTest test = new RowsTest();
        test.rowsAreNumberedAndLookedAt();
        test.edgesOfARow();
        test.wrongInputsOfRow();
        test.clashWantsAllFourTheSame();
        test.clashWantsADayInBoth();
        test.clashTellsTheLeastRow();
        test.clashGoesByTheLastDayKnownByNow();
        test.clashLooksAtNoLandsOrPapers();
        test.eightyRows();
        test.excludedLands();
        test.wantedPapers();
        test.lastDaysTold();
        test.lastDayKnownLatestCounts();
        test.lastDayAheadOfTheFirst();
        test.eightLastDays();
        test.wrongInputsOfEnd();
        test.wrongInputsOfLook();
        test.nowIsTheGreatestDay();
        test.check.finish();
    }

    private void rowsAreNumberedAndLookedAt() {
        MeasureRows x = new MeasureRows();
        check.due("5: row", x.row(1234, 17, 10, 30, 5, 6, 8), 1);
        check.due("5: row", x.row(99, 31, 0, OPEN, 0, 9, 7), 2);
        check.due("15: count(0)", x.count(0), 2);
        int[] first = {1234, 17, 10, 30, 5, 6, 8, 1, 0, 0};
        int[] second = {99, 31, 0, OPEN, 0, 9, 7, 1, 0, 0};
        for (int what = 0; what < 10; what++) {
            check.due("14: look(1, " + what + ")", x.look(1, what), first[what]);
            check.due("14: look(2, " + what + ")", x.look(2, what), second[what]);
        }
    }

    private void edgesOfARow() {
        MeasureRows x = new MeasureRows();
        int number = 0;
        for (int code : new int[] {10, 99, 1000, 9999, 100000, 999999}) {
            check.due("5: code " + code, x.row(code, 0, 0, 0, 0, 0, 0), ++number);
        }
        for (int land : new int[] {15, 16, 23, 31}) {
            check.due("5: land " + land, x.row(10, land, 0, 0, 0, 0, 0), ++number);
        }
        check.due("5: the last days", x.row(10, 1, 10000, 10000, 7, 9, 10000), ++number);
        check.due("5: open from the last day", x.row(10, 2, 10000, OPEN, 0, 0, 0), ++number);
        check.due("5: known after it ended", x.row(10, 3, 1, 2, 0, 0, 9), ++number);
    }

    private void wrongInputsOfRow() {
        MeasureRows x = new MeasureRows();
        for (int code : new int[] {Integer.MIN_VALUE, -10, 0, 1, 9, 100, 999, 10000, 99999, 1000000,
                Integer.MAX_VALUE}) {
            check.fails("5: code " + code, ARGUMENT, () -> x.row(code, 0, 0, 1, 0, 0, 0));
        }
        for (int land : new int[] {Integer.MIN_VALUE, -1, 24, 30, 32, 48, Integer.MAX_VALUE}) {
            check.fails("5: land " + land, ARGUMENT, () -> x.row(10, land, 0, 1, 0, 0, 0));
        }
        for (int day : NO_DAYS) {
            check.fails("5: from " + day, ARGUMENT, () -> x.row(10, 0, day, OPEN, 0, 0, 0));
            check.fails("5: to " + day, ARGUMENT, () -> x.row(10, 0, 0, day, 0, 0, 0));
            check.fails("5: known " + day, ARGUMENT, () -> x.row(10, 0, 0, 1, 0, 0, day));
        }
        check.fails("5: from OPEN", ARGUMENT, () -> x.row(10, 0, OPEN, OPEN, 0, 0, 0));
        check.fails("5: known OPEN", ARGUMENT, () -> x.row(10, 0, 0, 1, 0, 0, OPEN));
        for (int kind : new int[] {Integer.MIN_VALUE, -1, 8, Integer.MAX_VALUE}) {
            check.fails("5: kind " + kind, ARGUMENT, () -> x.row(10, 0, 0, 1, kind, 0, 0));
        }
        for (int rank : new int[] {Integer.MIN_VALUE, -1, 10, Integer.MAX_VALUE}) {
            check.fails("5: rank " + rank, ARGUMENT, () -> x.row(10, 0, 0, 1, 0, rank, 0));
        }
        check.fails("5: ends ahead of its first day", ARGUMENT, () -> x.row(10, 0, 6, 5, 0, 0, 9));
        check.due("5: none came", x.count(0), 0);
        check.due("5: nothing became known", x.count(1), 0);
    }

    private void clashWantsAllFourTheSame() {
        MeasureRows x = new MeasureRows();
        x.row(1234, 16, 5, 9, 4, 3, 0);
        check.due("5: the same", x.row(1234, 16, 5, 9, 4, 3, 0), -2);
        check.due("5: another code", x.row(12, 16, 5, 9, 4, 3, 0), 2);
        check.due("5: another land", x.row(1234, 17, 5, 9, 4, 3, 0), 3);
        check.due("5: a land of ALL", x.row(1234, 31, 5, 9, 4, 3, 0), 4);
        check.due("5: another kind", x.row(1234, 16, 5, 9, 5, 3, 0), 5);
        check.due("5: another rank", x.row(1234, 16, 5, 9, 4, 4, 0), 6);
        check.due("5: the known day is no matter", x.row(1234, 16, 5, 9, 4, 3, 77), -2);
        check.due("5: a clash is not known", x.count(1), 0);
        check.due("5: a clash is no row", x.count(0), 6);
    }

    private void clashWantsADayInBoth() {
        MeasureRows x = new MeasureRows();
        x.row(10, 0, 5, 9, 0, 0, 0);
        check.due("5: 0 .. 5", x.row(10, 0, 0, 5, 0, 0, 0), -2);
        check.due("5: 9 .. 9", x.row(10, 0, 9, 9, 0, 0, 0), -2);
        check.due("5: 7 .. 7", x.row(10, 0, 7, 7, 0, 0, 0), -2);
        check.due("5: 0 .. OPEN", x.row(10, 0, 0, OPEN, 0, 0, 0), -2);
        check.due("5: 0 .. 4", x.row(10, 0, 0, 4, 0, 0, 0), 2);
        check.due("5: 10 .. OPEN", x.row(10, 0, 10, OPEN, 0, 0, 0), 3);
        check.due("5: 10000 .. OPEN", x.row(10, 0, 10000, OPEN, 0, 0, 0), -4);
        check.due("5: 10000 .. 10000", x.row(10, 0, 10000, 10000, 0, 0, 0), -4);
    }

    private void clashTellsTheLeastRow() {
        MeasureRows x = new MeasureRows();
        x.row(10, 0, 20, 29, 0, 0, 0);
        x.row(10, 0, 10, 19, 0, 0, 0);
        x.row(10, 0, 0, 9, 0, 0, 0);
        check.due("5: with all three", x.row(10, 0, 0, 29, 0, 0, 0), -2);
        check.due("5: with 2 and 3", x.row(10, 0, 0, 19, 0, 0, 0), -3);
        check.due("5: with 3", x.row(10, 0, 0, 9, 0, 0, 0), -4);
    }

    private void clashGoesByTheLastDayKnownByNow() {
        MeasureRows x = new MeasureRows();
        x.row(10, 0, 5, OPEN, 0, 0, 3);
        check.due("8: end", x.end(1, 50, 9000), 2);
        check.due("5: 51, known ahead of the end", x.row(10, 0, 51, 60, 0, 0, 0), 2);
        check.due("5: 50", x.row(10, 0, 50, 50, 0, 0, 0), -2);
        check.due("8: longer again, known earlier", x.end(1, 100, 8999), 3);
        check.due("5: 70 is free still", x.row(10, 0, 70, 70, 0, 0, 0), 3);
        check.due("8: longer again, though others stand there", x.end(1, 100, 9000), 4);
        check.due("5: 80 is taken", x.row(10, 0, 80, 80, 0, 0, 0), -2);
    }

    private void clashLooksAtNoLandsOrPapers() {
        MeasureRows x = new MeasureRows();
        x.row(10, 3, 0, 9, 0, 0, 0);
        x.exclude(1, 3);
        x.condition(1, 3);
        check.due("5: excluded and wanting", x.row(10, 3, 0, 9, 0, 0, 0), -2);
    }

    private void eightyRows() {
        MeasureRows x = new MeasureRows();
        for (int i = 1; i <= 80; i++) {
            check.due("5: row " + i, x.row(10, 0, i, i, 0, 0, 0), i);
        }
        check.fails("5: the 81st", STATE, () -> x.row(10, 0, 0, 0, 0, 0, 5));
        check.fails("5: the 81st, a clash", STATE, () -> x.row(10, 0, 1, 1, 0, 0, 5));
        check.fails("5: the 81st, no code", ARGUMENT, () -> x.row(9, 0, 0, 0, 0, 0, 5));
        check.fails("5: the 81st, no rank", ARGUMENT, () -> x.row(10, 0, 0, 0, 0, 10, 5));
        check.fails("5: the 81st, turned round", ARGUMENT, () -> x.row(10, 0, 1, 0, 0, 0, 5));
        check.due("15: count(0)", x.count(0), 80);
        check.due("15: count(1)", x.count(1), 0);
        check.due("14: look(80, 2)", x.look(80, 2), 80);
        check.fails("14: look(81, 2)", INDEX, () -> x.look(81, 2));
        check.yes("6: exclude(80, 0)", x.exclude(80, 0));
        check.no("6: exclude(81, 0)", x.exclude(81, 0));
    }

    private void excludedLands() {
        MeasureRows x = new MeasureRows();
        x.row(10, 31, 0, 9, 0, 0, 0);
        x.row(11, 2, 0, 9, 0, 0, 0);
        for (int row : new int[] {Integer.MIN_VALUE, -1, 0, 3, 80, 81, Integer.MAX_VALUE}) {
            check.no("6: exclude(" + row + ", 0)", x.exclude(row, 0));
        }
        for (int land : new int[] {Integer.MIN_VALUE, -1, 16, 23, 31, 32, Integer.MAX_VALUE}) {
            check.no("6: exclude(1, " + land + ")", x.exclude(1, land));
        }
        check.due("14: look(1, 8)", x.look(1, 8), 0);
        check.yes("6: exclude(1, 0)", x.exclude(1, 0));
        check.no("6: exclude(1, 0) again", x.exclude(1, 0));
        check.due("14: look(1, 8)", x.look(1, 8), 1);
        check.yes("6: exclude(1, 15)", x.exclude(1, 15));
        check.yes("6: exclude(1, 7)", x.exclude(1, 7));
        check.yes("6: exclude(1, 8)", x.exclude(1, 8));
        check.no("6: exclude(1, 9), the fifth", x.exclude(1, 9));
        check.due("14: look(1, 8)", x.look(1, 8), 4);
        check.due("14: look(1, 9)", x.look(1, 9), 0);
        check.due("14: look(2, 8)", x.look(2, 8), 0);
        check.yes("6: exclude(2, 9), a land that it has not", x.exclude(2, 9));
        check.due("6: scan, the fifth is not excluded", x.scan(10, 9, 0), 1);
        for (int land : new int[] {0, 7, 8, 15}) {
            check.due("6: scan of " + land, x.scan(10, land, 0), 0);
        }
    }

    private void wantedPapers() {
        MeasureRows x = new MeasureRows();
        x.row(10, 31, 0, 9, 0, 0, 0);
        x.row(11, 31, 0, 9, 0, 0, 0);
        for (int row : new int[] {Integer.MIN_VALUE, -1, 0, 3, 80, 81, Integer.MAX_VALUE}) {
            check.no("7: condition(" + row + ", 0)", x.condition(row, 0));
        }
        for (int paper : new int[] {Integer.MIN_VALUE, -1, 16, 31, 32, Integer.MAX_VALUE}) {
            check.no("7: condition(1, " + paper + ")", x.condition(1, paper));
        }
        check.due("14: look(1, 9)", x.look(1, 9), 0);
        check.yes("7: condition(1, 0)", x.condition(1, 0));
        check.no("7: condition(1, 0) again", x.condition(1, 0));
        check.yes("7: condition(1, 15)", x.condition(1, 15));
        check.yes("7: condition(1, 1)", x.condition(1, 1));
        check.due("14: look(1, 9)", x.look(1, 9), 3);
        check.yes("7: condition(1, 2)", x.condition(1, 2));
        check.no("7: condition(1, 3), the fifth", x.condition(1, 3));
        check.due("14: look(1, 9)", x.look(1, 9), 4);
        check.due("14: look(1, 8)", x.look(1, 8), 0);
        check.due("14: look(2, 9)", x.look(2, 9), 0);
    }

    private void lastDaysTold() {
        MeasureRows x = new MeasureRows();
        x.row(10, 0, 5, 9, 0, 0, 20);
        x.row(11, 0, 5, 9, 0, 0, 20);
        check.due("8: end", x.end(1, 7, 30), 2);
        check.due("14: look(1, 3)", x.look(1, 3), 7);
        check.due("14: look(1, 7)", x.look(1, 7), 2);
        check.due("14: look(1, 6)", x.look(1, 6), 20);
        check.due("14: look(2, 3)", x.look(2, 3), 9);
        check.due("14: look(2, 7)", x.look(2, 7), 1);
        check.due("8: to its first day", x.end(1, 5, 30), 3);
        check.due("14: look(1, 3)", x.look(1, 3), 5);
        check.due("8: to OPEN", x.end(1, OPEN, 31), 4);
        check.due("14: look(1, 3)", x.look(1, 3), OPEN);
        check.due("8: to the last of days, known on it", x.end(1, 10000, 10000), 5);
        check.due("14: look(1, 3)", x.look(1, 3), 10000);
    }

    private void lastDayKnownLatestCounts() {
        MeasureRows x = new MeasureRows();
        x.row(10, 0, 5, 9, 0, 0, 20);
        check.due("8: known ahead of the row itself", x.end(1, 30, 19), 2);
        check.due("14: look(1, 3)", x.look(1, 3), 9);
        check.due("8: as of 19 the row is not known", x.apply(100000, 0, 9, 19), 0);
        check.due("8: as of 20 the row's own counts", x.apply(100000, 0, 10, 20), 0);
        check.due("8: of the row's own day", x.end(1, 12, 20), 3);
        check.due("14: look(1, 3)", x.look(1, 3), 12);
        check.due("8: as of 20 the one told last", x.apply(100000, 0, 12, 20), 1);
        check.due("8: end", x.end(1, 40, 50), 4);
        check.due("8: end between", x.end(1, 6, 49), 5);
        check.due("14: look(1, 3)", x.look(1, 3), 40);
        check.due("8: as of 48", x.apply(100000, 0, 12, 48), 1);
        check.due("8: as of 48", x.apply(100000, 0, 13, 48), 0);
        check.due("8: as of 49", x.apply(100000, 0, 6, 49), 1);
        check.due("8: as of 49", x.apply(100000, 0, 7, 49), 0);
        check.due("8: as of 50", x.apply(100000, 0, 40, 50), 1);
        check.due("8: as of 50", x.apply(100000, 0, 41, 50), 0);
    }

    private void lastDayAheadOfTheFirst() {
        MeasureRows x = new MeasureRows();
        x.row(10, 0, 5, 9, 0, 0, 20);
        check.due("8: ahead of its first day", x.end(1, 4, 30), 0);
        check.due("8: ahead of its first day", x.end(1, 0, 30), 0);
        check.due("14: look(1, 3)", x.look(1, 3), 9);
        check.due("14: look(1, 7)", x.look(1, 7), 1);
        check.due("15: count(1)", x.count(1), 20);
    }

    private void eightLastDays() {
        MeasureRows x = new MeasureRows();
        x.row(10, 0, 5, 9, 0, 0, 0);
        for (int told = 2; told <= 8; told++) {
            check.due("8: end", x.end(1, 10 + told, told), told);
        }
        check.fails("8: the ninth", STATE, () -> x.end(1, 30, 30));
        check.fails("8: the ninth, ahead of its first day", STATE, () -> x.end(1, 4, 30));
        check.fails("8: the ninth, no day", ARGUMENT, () -> x.end(1, 10001, 30));
        check.fails("8: the ninth, known on no day", ARGUMENT, () -> x.end(1, 30, -1));
        check.due("14: look(1, 3)", x.look(1, 3), 18);
        check.due("14: look(1, 7)", x.look(1, 7), 8);
        check.due("15: count(1)", x.count(1), 8);
    }

    private void wrongInputsOfEnd() {
        MeasureRows x = new MeasureRows();
        x.row(10, 0, 5, 9, 0, 0, 0);
        for (int row : new int[] {Integer.MIN_VALUE, -1, 0, 2, 80, 81, Integer.MAX_VALUE}) {
            check.fails("8: end(" + row + ", 7, 1)", INDEX, () -> x.end(row, 7, 1));
            check.fails("8: end(" + row + ", -1, -1)", INDEX, () -> x.end(row, -1, -1));
        }
        for (int day : NO_DAYS) {
            check.fails("8: end(1, " + day + ", 1)", ARGUMENT, () -> x.end(1, day, 1));
            check.fails("8: end(1, 7, " + day + ")", ARGUMENT, () -> x.end(1, 7, day));
            check.fails("8: end(1, 4, " + day + ")", ARGUMENT, () -> x.end(1, 4, day));
        }
        check.fails("8: known OPEN", ARGUMENT, () -> x.end(1, 7, OPEN));
        check.due("14: look(1, 7)", x.look(1, 7), 1);
    }

    private void wrongInputsOfLook() {
        MeasureRows x = new MeasureRows();
        x.row(10, 0, 5, 9, 0, 0, 0);
        for (int row : new int[] {Integer.MIN_VALUE, -1, 0, 2, 80, 81, Integer.MAX_VALUE}) {
            check.fails("14: look(" + row + ", 0)", INDEX, () -> x.look(row, 0));
        }
        for (int what : new int[] {Integer.MIN_VALUE, -1, 10, 16, Integer.MAX_VALUE}) {
            check.fails("14: look(1, " + what + ")", INDEX, () -> x.look(1, what));
        }
    }

    private void nowIsTheGreatestDay() {
        MeasureRows x = new MeasureRows();
        x.row(10, 0, 900, 900, 0, 0, 7);
        check.due("15: count(1)", x.count(1), 7);
        x.row(11, 0, 900, 900, 0, 0, 3);
        check.due("15: count(1)", x.count(1), 7);
        x.end(2, 950, 12);
        check.due("15: count(1)", x.count(1), 12);
        x.end(1, 950, 2);
        check.due("15: count(1)", x.count(1), 12);
        x.apply(100000, 0, 900, 5000);
        check.due("15: a question makes nothing known", x.count(1), 12);
        x.row(12, 0, 0, 0, 0, 0, 10000);
        check.due("15: count(1)", x.count(1), 10000);
    }
}
