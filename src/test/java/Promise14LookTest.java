@Part("Promise 14: look")
public final class Promise14LookTest {
    public static void main(String[] args) {
        Sentences.run(Promise14LookTest.class);
    }

    private static void looks(Check check, MeasureRows x, int row, int... want) {
        for (int what = 0; what < want.length; what++) {
            check.due("look(" + row + ", " + what + ")", x.look(row, what), want[what]);
        }
    }

    @Says("Of a row: what 0: code, 1: land, 2: first day, 3: last day as known by now, 4: kind, 5: rank, "
            + "6: the day on which it became known, 7: how many last days were told; 8: lands excluded, "
            + "9: papers wanted.")
    static void eachWhatOfARowOfItsOwn(Check check) {
        MeasureRows x = new MeasureRows();
        x.row(1234, 17, 10, 30, 5, 6, 8);
        x.row(99, 31, 0, Edges.OPEN, 0, 9, 7);
        looks(check, x, 1, 1234, 17, 10, 30, 5, 6, 8, 1, 0, 0);
        looks(check, x, 2, 99, 31, 0, Edges.OPEN, 0, 9, 7, 1, 0, 0);
    }

    @Says("Of a row: what 0: code, 1: land, 2: first day, 3: last day as known by now, 4: kind, 5: rank, "
            + "6: the day on which it became known")
    static void theLeastAndTheGreatestOfEach(Check check) {
        MeasureRows x = new MeasureRows();
        x.row(10, 0, 0, 0, 0, 0, 0);
        x.row(999999, 31, 10000, Edges.OPEN, 7, 9, 10000);
        looks(check, x, 1, 10, 0, 0, 0, 0, 0, 0, 1, 0, 0);
        looks(check, x, 2, 999999, 31, 10000, Edges.OPEN, 7, 9, 10000, 1, 0, 0);
    }

    @Says("3: last day as known by now")
    static void theLastDayKnownLatest(Check check) {
        MeasureRows x = Made.oneRow(5, 9, 20);
        x.end(1, 30, 19);
        check.due("an end known ahead of the row", x.look(1, 3), 9);
        x.end(1, 12, 20);
        check.due("an end known with the row", x.look(1, 3), 12);
        x.end(1, Edges.OPEN, 21);
        check.due("an end known later", x.look(1, 3), Edges.OPEN);
    }

    @Says("3: last day as known by now")
    static void byNowAllThatWasToldIsKnown(Check check) {
        MeasureRows x = Made.oneRow(5, 9, 0);
        x.end(1, 7, 10000);
        check.due("known on the last of days", x.look(1, 3), 7);
    }

    @Says("6: the day on which it became known")
    static void anEndMakesARowNoYounger(Check check) {
        MeasureRows x = Made.oneRow(5, 9, 20);
        x.end(1, 7, 30);
        x.end(1, 7, 10);
        check.due("look(1, 6)", x.look(1, 6), 20);
    }

    @Says("7: how many last days were told")
    static void from1To8(Check check) {
        MeasureRows x = Made.oneRow(5, 9, 0);
        for (int told = 1; told <= 7; told++) {
            check.due("look(1, 7)", x.look(1, 7), told);
            x.end(1, 9, 0);
        }
        check.due("look(1, 7)", x.look(1, 7), 8);
    }

    @Says("8: lands excluded")
    static void howManyLandsFrom0To4(Check check) {
        MeasureRows x = Made.oneRow(5, 9, 0);
        for (int excluded = 0; excluded <= 4; excluded++) {
            check.due("look(1, 8)", x.look(1, 8), excluded);
            x.exclude(1, 15 - excluded);
        }
        check.due("look(1, 8), after a fifth", x.look(1, 8), 4);
        check.due("look(1, 9)", x.look(1, 9), 0);
    }

    @Says("9: papers wanted")
    static void howManyPapersFrom0To4(Check check) {
        MeasureRows x = Made.oneRow(5, 9, 0);
        for (int wanted = 0; wanted <= 4; wanted++) {
            check.due("look(1, 9)", x.look(1, 9), wanted);
            x.condition(1, 15 - wanted);
        }
        check.due("look(1, 9), after a fifth", x.look(1, 9), 4);
        check.due("look(1, 8)", x.look(1, 8), 0);
    }

    @Says("IndexOutOfBoundsException if there is none such")
    static void noSuchRow(Check check) {
        MeasureRows x = Made.rowsOfOneDay(2);
        for (int row : Edges.noRows(2)) {
            check.fails("look(" + row + ", 0)", Edges.INDEX, () -> x.look(row, 0));
            check.fails("look(" + row + ", 9)", Edges.INDEX, () -> x.look(row, 9));
        }
        check.due("look(2, 0)", x.look(2, 0), 10);
    }

    @Says("IndexOutOfBoundsException if there is none such")
    static void row81OfAFullObject(Check check) {
        MeasureRows x = Made.rowsOfOneDay(80);
        check.fails("look(81, 2)", Edges.INDEX, () -> x.look(81, 2));
        check.fails("look(0, 2)", Edges.INDEX, () -> x.look(0, 2));
        check.due("look(80, 2)", x.look(80, 2), 80);
    }

    @Says("IndexOutOfBoundsException if there is none such")
    static void noSuchWhat(Check check) {
        MeasureRows x = Made.oneRow(5, 9, 0);
        for (int what : new int[] {Edges.LEAST, -10, -1, 10, 11, 16, 31, Edges.GREATEST}) {
            check.fails("look(1, " + what + ")", Edges.INDEX, () -> x.look(1, what));
            check.fails("look(2, " + what + ")", Edges.INDEX, () -> x.look(2, what));
        }
    }
}
