@Part("Promise 13: change")
public final class Promise13ChangeTest {
    public static void main(String[] args) {
        Sentences.run(Promise13ChangeTest.class);
    }

    @Says("has one of two days, and not both")
    static void theEdgesOfARow(Check check) {
        MeasureRows x = Made.oneRow(5, 9, 0);
        int[][] one = {{4, 5}, {5, 4}, {9, 10}, {10, 9}, {0, 7}, {7, 10000}};
        for (int[] days : one) {
            check.due("change(" + days[0] + ", " + days[1] + ", 0)", x.change(days[0], days[1], 0), 1);
        }
        int[][] bothOrNone = {{5, 9}, {9, 5}, {4, 10}, {0, 10000}, {0, 4}, {10, 10000}};
        for (int[] days : bothOrNone) {
            check.due("change(" + days[0] + ", " + days[1] + ", 0)", x.change(days[0], days[1], 0), Edges.NONE);
        }
    }

    @Says("has one of two days, and not both")
    static void theSameDayTwice(Check check) {
        MeasureRows x = Made.oneRow(5, 9, 0);
        for (int day : new int[] {0, 4, 5, 7, 9, 10, 10000}) {
            check.due("change(" + day + ", " + day + ", 0)", x.change(day, day, 0), Edges.NONE);
        }
    }

    @Says("has one of two days, and not both")
    static void rowsOfTheFirstAndTheLastDay(Check check) {
        MeasureRows x = new MeasureRows();
        x.row(10, 0, 0, 0, 0, 0, 0);
        x.row(10, 0, 10000, 10000, 0, 0, 0);
        x.row(11, 0, 0, 10000, 0, 0, 0);
        x.row(12, 0, 0, Edges.OPEN, 0, 0, 0);
        x.row(13, 0, 10000, Edges.OPEN, 0, 0, 0);
        check.due("change(0, 10000, 0)", x.change(0, 10000, 0), 1);
        check.due("change(0, 10000, 1)", x.change(0, 10000, 1), 2);
        check.due("change(0, 10000, 2)", x.change(0, 10000, 2), 5);
        check.due("change(0, 10000, 3)", x.change(0, 10000, 3), Edges.NONE);
    }

    @Says("The i-th row (from 0, by number)")
    static void theFirstIs0AndTheLastOf80Is79(Check check) {
        MeasureRows x = Made.fullOfLand5();
        for (int row = 1; row <= 80; row++) {
            x.end(row, 9, 0);
        }
        for (int i = 0; i < 80; i++) {
            check.due("change(9, 10, " + i + ")", x.change(9, 10, i), i + 1);
        }
        check.due("change(9, 10, 80)", x.change(9, 10, 80), Edges.NONE);
    }

    @Says("The i-th row (from 0, by number)")
    static void rowsBetweenThatDidNotChangeAreNotCounted(Check check) {
        MeasureRows x = Made.rowsOfOneDay(6);
        check.due("change(2, 5, 0)", x.change(2, 5, 0), 2);
        check.due("change(2, 5, 1)", x.change(2, 5, 1), 5);
        check.due("change(5, 2, 0)", x.change(5, 2, 0), 2);
        check.due("change(5, 2, 1)", x.change(5, 2, 1), 5);
        check.due("change(2, 5, 2)", x.change(2, 5, 2), Edges.NONE);
    }

    @Says("that, as known by now,")
    static void withTheLastDayKnownLatest(Check check) {
        MeasureRows x = Made.oneRow(5, 100, 9000);
        check.due("both days", x.change(5, 100, 0), Edges.NONE);
        x.end(1, 50, 9500);
        check.due("one of them", x.change(5, 100, 0), 1);
        x.end(1, 100, 9499);
        check.due("an end known earlier", x.change(5, 100, 0), 1);
        x.end(1, Edges.OPEN, 9500);
        check.due("an end known as late", x.change(5, 100, 0), Edges.NONE);
    }

    @Says("that, as known by now,")
    static void landsPapersAndListsAreNoMatter(Check check) {
        MeasureRows x = new MeasureRows();
        x.row(10, 16, 5, 9, 0, 0, 0);
        x.row(20, 2, 5, 9, 0, 0, 0);
        x.exclude(2, 2);
        x.condition(2, 0);
        x.scan(20, 3, 5);
        check.due("a row of an empty group", x.change(4, 5, 0), 1);
        check.due("a row excluded, without its paper", x.change(4, 5, 1), 2);
        check.list("no list was made", x);
    }

    @Says("NONE for none")
    static void besideTheRowsThatChanged(Check check) {
        MeasureRows x = Made.oneRow(5, 9, 0);
        for (int i : new int[] {Edges.LEAST, -2, -1, 1, 2, 79, 80, Edges.GREATEST}) {
            check.due("change(4, 5, " + i + ")", x.change(4, 5, i), Edges.NONE);
        }
    }

    @Says("NONE for none")
    static void noRows(Check check) {
        MeasureRows x = new MeasureRows();
        for (int i : new int[] {Edges.LEAST, -1, 0, 1, Edges.GREATEST}) {
            check.due("change(0, 10000, " + i + ")", x.change(0, 10000, i), Edges.NONE);
        }
    }

    @Says("IllegalArgumentException if there are no such days")
    static void noSuchDays(Check check) {
        MeasureRows x = Made.oneRow(5, 9, 0);
        for (int day : Edges.NO_DAYS) {
            check.fails("change(" + day + ", 5, 0)", Edges.ARGUMENT, () -> x.change(day, 5, 0));
            check.fails("change(5, " + day + ", 0)", Edges.ARGUMENT, () -> x.change(5, day, 0));
            check.fails("change(" + day + ", " + day + ", 0)", Edges.ARGUMENT, () -> x.change(day, day, 0));
        }
    }

    @Says("IllegalArgumentException if there are no such days")
    static void noSuchDaysWhereThereIsNoSuchRowEither(Check check) {
        MeasureRows x = new MeasureRows();
        for (int day : Edges.NO_DAYS) {
            check.fails("change(" + day + ", 0, -1)", Edges.ARGUMENT, () -> x.change(day, 0, -1));
            check.fails("change(0, " + day + ", 99)", Edges.ARGUMENT, () -> x.change(0, day, 99));
        }
    }
}
