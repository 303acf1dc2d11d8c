@Part("Promise 10: apply")
public final class Promise10ApplyTest {
    public static void main(String[] args) {
        Sentences.run(Promise10ApplyTest.class);
    }

    @Says("How many rows apply to a code of 6 digits, land and day")
    static void theLeastAndTheGreatestOfEach(Check check) {
        MeasureRows x = new MeasureRows();
        x.row(10, 0, 0, 0, 0, 0, 0);
        x.row(99, 15, 10000, 10000, 7, 9, 10000);
        check.due("the least", x.apply(100000, 0, 0, 0), 1);
        check.list("the least", x, 1);
        check.due("the greatest", x.apply(999999, 15, 10000, 10000), 1);
        check.list("the greatest", x, 2);
    }

    @Says("How many rows apply to a code of 6 digits, land and day")
    static void noneApplies(Check check) {
        MeasureRows x = new MeasureRows();
        check.due("no rows", x.apply(100000, 0, 0, 0), 0);
        x.row(10, 1, 5, 9, 0, 0, 7);
        check.due("another code", x.apply(110000, 1, 5, 7), 0);
        check.due("another land", x.apply(100000, 0, 5, 7), 0);
        check.due("another day", x.apply(100000, 1, 4, 7), 0);
        check.due("known another day", x.apply(100000, 1, 5, 6), 0);
        check.due("all as they should be", x.apply(100000, 1, 5, 7), 1);
    }

    @Says("How many rows apply to a code of 6 digits, land and day")
    static void all80(Check check) {
        MeasureRows x = Made.fullOfLand5();
        check.due("land 5", x.apply(100000, 5, 0, 0), 80);
        check.due("count(2)", x.count(2), 80);
        check.due("land 6", x.apply(100000, 6, 0, 0), 40);
        check.due("count(2)", x.count(2), 40);
    }

    @Says("as known on another day")
    static void asKnownOnTheDayAheadAndOnTheDay(Check check) {
        MeasureRows x = Made.oneRow(0, 100, 10);
        x.end(1, 50, 20);
        check.due("as of 9", x.apply(100000, 0, 0, 9), 0);
        check.due("as of 10", x.apply(100000, 0, 100, 10), 1);
        check.due("as of 19", x.apply(100000, 0, 100, 19), 1);
        check.due("as of 20", x.apply(100000, 0, 100, 20), 0);
        check.due("as of 20, within the end", x.apply(100000, 0, 50, 20), 1);
    }

    @Says("as known on another day")
    static void asKnownPastNow(Check check) {
        MeasureRows x = Made.oneRow(0, 9, 3);
        check.due("as of 10000", x.apply(100000, 0, 0, 10000), 1);
        check.due("NOW stays", x.count(1), 3);
    }

    @Says("as known on another day")
    static void theDayMayLieAheadOfTheKnownOneOrBehindIt(Check check) {
        MeasureRows x = Made.oneRow(0, Edges.OPEN, 100);
        check.due("day 0 as of 100", x.apply(100000, 0, 0, 100), 1);
        check.due("day 10000 as of 100", x.apply(100000, 0, 10000, 100), 1);
    }

    @Says("they are listed then, by kind, of these by number")
    static void byKindAndThenByNumber(Check check) {
        MeasureRows x = new MeasureRows();
        x.row(12, 31, 0, 9, 7, 0, 0);
        x.row(12, 31, 0, 9, 0, 2, 0);
        x.row(1234, 31, 0, 9, 5, 0, 0);
        x.row(12, 31, 0, 9, 3, 0, 0);
        x.row(12, 31, 0, 9, 5, 9, 0);
        x.row(12, 0, 0, 9, 0, 2, 0);
        x.row(99, 0, 0, 9, 0, 2, 0);
        check.due("apply", x.apply(123456, 0, 0, 0), 6);
        check.list("apply", x, 2, 6, 4, 3, 5, 1);
    }

    @Says("they are listed then, by kind, of these by number")
    static void aFullListIsInOrder(Check check) {
        MeasureRows x = Made.fullOfLand5();
        x.apply(100000, 5, 0, 0);
        for (int i = 0; i < 80; i++) {
            // 20 rows of each kind from 4 to 7; kind 4 is that of rows 4, 8, .., kind 7 that of rows 1, 5, ..
            check.due("at(" + i + ")", x.at(i), 4 - i / 20 + 4 * (i % 20));
        }
        check.due("at(80)", x.at(80), Edges.NONE);
    }

    @Says("IllegalArgumentException if there are none such")
    static void noSuchCode(Check check) {
        MeasureRows x = Made.oneRow(0, Edges.OPEN, 0);
        for (int code : Edges.NO_CODES) {
            check.fails("code " + code, Edges.ARGUMENT, () -> x.apply(code, 0, 0, 0));
        }
    }

    @Says("IllegalArgumentException if there are none such")
    static void codesOfTwoAndFourDigits(Check check) {
        MeasureRows x = Made.oneRow(0, Edges.OPEN, 0);
        for (int code : new int[] {10, 99, 1000, 9999}) {
            check.fails("code " + code, Edges.ARGUMENT, () -> x.apply(code, 0, 0, 0));
        }
    }

    @Says("IllegalArgumentException if there are none such")
    static void noSuchLand(Check check) {
        MeasureRows x = Made.oneRow(0, Edges.OPEN, 0);
        for (int land : Edges.NO_LANDS) {
            check.fails("land " + land, Edges.ARGUMENT, () -> x.apply(100000, land, 0, 0));
        }
    }

    @Says("IllegalArgumentException if there are none such")
    static void noSuchDay(Check check) {
        MeasureRows x = Made.oneRow(0, Edges.OPEN, 0);
        for (int day : Edges.NO_DAYS) {
            check.fails("day " + day, Edges.ARGUMENT, () -> x.apply(100000, 0, day, 0));
        }
    }

    @Says("IllegalArgumentException if there are none such")
    static void noSuchKnownDay(Check check) {
        MeasureRows x = Made.oneRow(0, Edges.OPEN, 0);
        for (int day : Edges.NO_DAYS) {
            check.fails("known " + day, Edges.ARGUMENT, () -> x.apply(100000, 0, 0, day));
        }
    }
}
