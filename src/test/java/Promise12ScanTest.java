@Part("Promise 12: scan")
public final class Promise12ScanTest {
    public static void main(String[] args) {
        Sentences.run(Promise12ScanTest.class);
    }

    @Says("How many rows are of a code (of any level), land and day")
    static void theLeastAndTheGreatestOfEach(Check check) {
        MeasureRows x = new MeasureRows();
        x.row(10, 0, 0, 0, 0, 0, 0);
        x.row(99, 15, 10000, 10000, 7, 9, 10000);
        check.due("the least", x.scan(10, 0, 0), 1);
        check.list("the least", x, 1);
        check.due("the greatest", x.scan(999999, 15, 10000), 1);
        check.list("the greatest", x, 2);
    }

    @Says("a code (of any level)")
    static void codesOfEachLevel(Check check) {
        MeasureRows x = new MeasureRows();
        x.row(123456, 31, 0, 9, 0, 0, 0);
        x.row(12, 31, 0, 9, 0, 0, 0);
        x.row(1234, 31, 0, 9, 0, 0, 0);
        check.due("scan(12)", x.scan(12, 0, 0), 1);
        check.list("scan(12)", x, 2);
        check.due("scan(1234)", x.scan(1234, 0, 0), 2);
        check.list("scan(1234)", x, 2, 3);
        check.due("scan(123456)", x.scan(123456, 0, 0), 3);
        check.list("scan(123456)", x, 1, 2, 3);
    }

    @Says("a code (of any level)")
    static void theEdgesOfEachLevel(Check check) {
        for (int code : Edges.EDGE_CODES) {
            MeasureRows x = new MeasureRows();
            x.row(code, 31, 0, 9, 0, 0, 0);
            check.due("scan(" + code + ")", x.scan(code, 0, 0), 1);
        }
    }

    @Says("How many rows are of a code (of any level), land and day")
    static void noneIs(Check check) {
        MeasureRows x = new MeasureRows();
        check.due("no rows", x.scan(10, 0, 0), 0);
        x.row(10, 1, 5, 9, 0, 0, 0);
        check.due("another code", x.scan(11, 1, 5), 0);
        check.due("another land", x.scan(10, 0, 5), 0);
        check.due("another day", x.scan(10, 1, 4), 0);
        check.due("all as they should be", x.scan(10, 1, 5), 1);
    }

    @Says("How many rows are of a code (of any level), land and day")
    static void all80(Check check) {
        MeasureRows x = Made.fullOfLand5();
        check.due("land 5", x.scan(10, 5, 0), 80);
        check.due("count(2)", x.count(2), 80);
    }

    @Says("How many rows are of a code (of any level), land and day")
    static void papersAndBeatingAreNoMatter(Check check) {
        MeasureRows x = new MeasureRows();
        x.row(12, 31, 0, 9, 0, 0, 0);
        x.row(12, 31, 0, 9, 0, 9, 0);
        x.row(1234, 31, 0, 9, 0, 0, 0);
        x.condition(1, 0);
        check.due("scan", x.scan(1234, 0, 0), 3);
    }

    @Says("as known by now")
    static void knownOnALaterDayThanTheOneAskedFor(Check check) {
        MeasureRows x = Made.oneRow(0, 9, 10000);
        check.due("day 0", x.scan(10, 0, 0), 1);
    }

    @Says("as known by now")
    static void withTheLastDayKnownLatest(Check check) {
        MeasureRows x = Made.oneRow(0, 100, 9000);
        x.end(1, 50, 9500);
        check.due("within the end told", x.scan(10, 0, 50), 1);
        check.due("past the end told", x.scan(10, 0, 51), 0);
        x.end(1, 70, 9499);
        check.due("an end known earlier", x.scan(10, 0, 51), 0);
        x.end(1, 70, 9500);
        check.due("an end known as late", x.scan(10, 0, 51), 1);
    }

    @Says("they are listed by number")
    static void byNumberAndNotByKind(Check check) {
        MeasureRows x = new MeasureRows();
        x.row(12, 31, 0, 9, 7, 0, 0);
        x.row(12, 31, 0, 9, 0, 2, 0);
        x.row(1234, 31, 0, 9, 5, 0, 0);
        x.row(12, 31, 0, 9, 0, 9, 0);
        x.scan(123456, 0, 0);
        check.list("scan", x, 1, 2, 3, 4);
    }

    @Says("they are listed by number")
    static void aFullListIsInOrder(Check check) {
        MeasureRows x = Made.fullOfLand5();
        x.scan(10, 5, 0);
        for (int i = 0; i < 80; i++) {
            check.due("at(" + i + ")", x.at(i), i + 1);
        }
        check.due("at(80)", x.at(80), Edges.NONE);
    }

    @Says("IllegalArgumentException if there are none such")
    static void noSuchCode(Check check) {
        MeasureRows x = Made.oneRow(0, Edges.OPEN, 0);
        for (int code : Edges.NO_CODES) {
            check.fails("code " + code, Edges.ARGUMENT, () -> x.scan(code, 0, 0));
        }
    }

    @Says("IllegalArgumentException if there are none such")
    static void noSuchLand(Check check) {
        MeasureRows x = Made.oneRow(0, Edges.OPEN, 0);
        for (int land : Edges.NO_LANDS) {
            check.fails("land " + land, Edges.ARGUMENT, () -> x.scan(10, land, 0));
        }
    }

    @Says("IllegalArgumentException if there are none such")
    static void noSuchDay(Check check) {
        MeasureRows x = Made.oneRow(0, Edges.OPEN, 0);
        for (int day : Edges.NO_DAYS) {
            check.fails("day " + day, Edges.ARGUMENT, () -> x.scan(10, 0, day));
        }
    }
}
