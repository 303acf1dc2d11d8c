/** Which exception is thrown, and that a call which is refused, or finds nothing, changes nothing. */
@Part("Terms")
public final class TermsRefusedTest {
    private interface Refused {
        long on(MeasureRows x);
    }

    public static void main(String[] args) {
        Sentences.run(TermsRefusedTest.class);
    }

    private static final String CHANGES_NOTHING =
            "What throws, answers false, 0 or a number below 0 changes nothing.";

    private static void answers(Check check, String call, long want, Refused refused) {
        MeasureRows x = Made.lively();
        check.due(call, refused.on(x), want);
        check.text(call + ": what the object tells then", Probe.of(x), Probe.of(Made.lively()));
    }

    private static void fails(Check check, String call, Class<? extends RuntimeException> want, Refused refused) {
        MeasureRows x = Made.lively();
        check.fails(call, want, () -> refused.on(x));
        check.text(call + ": what the object tells then", Probe.of(x), Probe.of(Made.lively()));
    }

    @Says("Of several exceptions the one told first is thrown.")
    static void ofRowTheArgumentsAheadOfThe80(Check check) {
        MeasureRows x = Made.rowsOfOneDay(80);
        check.fails("no code", Edges.ARGUMENT, () -> x.row(9, 0, 0, 0, 0, 0, 0));
        check.fails("no land", Edges.ARGUMENT, () -> x.row(10, 24, 0, 0, 0, 0, 0));
        check.fails("no first day", Edges.ARGUMENT, () -> x.row(10, 0, -1, 0, 0, 0, 0));
        check.fails("no last day", Edges.ARGUMENT, () -> x.row(10, 0, 0, 10001, 0, 0, 0));
        check.fails("no kind", Edges.ARGUMENT, () -> x.row(10, 0, 0, 0, 8, 0, 0));
        check.fails("no rank", Edges.ARGUMENT, () -> x.row(10, 0, 0, 0, 0, 10, 0));
        check.fails("no known day", Edges.ARGUMENT, () -> x.row(10, 0, 0, 0, 0, 0, 10001));
        check.fails("ends ahead of its first day", Edges.ARGUMENT, () -> x.row(10, 0, 1, 0, 0, 0, 0));
        check.fails("nothing but the 80", Edges.STATE, () -> x.row(10, 0, 0, 0, 0, 0, 0));
    }

    @Says("Of several exceptions the one told first is thrown.")
    static void ofEndTheRowAheadOfTheDays(Check check) {
        MeasureRows x = Made.oneRow(5, 9, 0);
        for (int row : Edges.noRows(1)) {
            check.fails("row " + row + ", no last day", Edges.INDEX, () -> x.end(row, -1, 0));
            check.fails("row " + row + ", no known day", Edges.INDEX, () -> x.end(row, 7, 10001));
            check.fails("row " + row + ", no days", Edges.INDEX, () -> x.end(row, 20001, -1));
        }
    }

    @Says("Of several exceptions the one told first is thrown.")
    static void ofEndTheDaysAheadOfThe8(Check check) {
        MeasureRows x = Made.eightTold();
        check.fails("no last day", Edges.ARGUMENT, () -> x.end(1, 10001, 30));
        check.fails("no known day", Edges.ARGUMENT, () -> x.end(1, 30, Edges.OPEN));
        check.fails("no known day, ahead of its first day", Edges.ARGUMENT, () -> x.end(1, 4, -1));
        check.fails("no row", Edges.INDEX, () -> x.end(2, 30, 30));
        check.fails("nothing but the 8", Edges.STATE, () -> x.end(1, 30, 30));
    }

    @Says(CHANGES_NOTHING)
    static void member(Check check) {
        answers(check, "no such group", 0, x -> x.member(24, 5) ? 1 : 0);
        answers(check, "no such land", 0, x -> x.member(16, 24) ? 1 : 0);
        answers(check, "a member already", 0, x -> x.member(16, 3) ? 1 : 0);
        answers(check, "a ring", 0, x -> x.member(16, 17) ? 1 : 0);
        answers(check, "a ring of one", 0, x -> x.member(18, 18) ? 1 : 0);
    }

    @Says(CHANGES_NOTHING)
    static void ring(Check check) {
        fails(check, "no such group", Edges.INDEX, x -> x.ring(16, 3) ? 1 : 0);
        answers(check, "no ring", 0, x -> x.ring(18, 16) ? 1 : 0);
    }

    @Says(CHANGES_NOTHING)
    static void has(Check check) {
        fails(check, "no such group", Edges.INDEX, x -> x.has(24, 3) ? 1 : 0);
        fails(check, "no such land", Edges.INDEX, x -> x.has(16, 17) ? 1 : 0);
        answers(check, "not in it", 0, x -> x.has(16, 15) ? 1 : 0);
    }

    @Says(CHANGES_NOTHING)
    static void rowThatThrows(Check check) {
        fails(check, "no code", Edges.ARGUMENT, x -> x.row(9, 3, 12, 20, 0, 0, 100));
        fails(check, "no land", Edges.ARGUMENT, x -> x.row(12, 24, 12, 20, 0, 0, 100));
        fails(check, "no rank", Edges.ARGUMENT, x -> x.row(12, 3, 12, 20, 0, 10, 100));
        fails(check, "no known day", Edges.ARGUMENT, x -> x.row(12, 3, 12, 20, 0, 0, 10001));
        fails(check, "ends ahead of its first day", Edges.ARGUMENT, x -> x.row(12, 3, 12, 11, 0, 0, 100));
    }

    @Says(CHANGES_NOTHING)
    static void rowThatClashes(Check check) {
        answers(check, "with row 1", -2, x -> x.row(12, 31, 10000, 10000, 0, 1, 10000));
        answers(check, "with row 3", -4, x -> x.row(123456, 3, 20, Edges.OPEN, 4, 0, 10000));
    }

    @Says(CHANGES_NOTHING)
    static void rowBeyond80(Check check) {
        MeasureRows x = Made.rowsOfOneDay(80);
        x.scan(10, 0, 80);
        check.fails("row", Edges.STATE, () -> x.row(10, 0, 90, 90, 0, 0, 9000));
        check.due("rows", x.count(0), 80);
        check.due("NOW", x.count(1), 0);
        check.list("list", x, 80);
        check.due("day 90", x.scan(10, 0, 90), 0);
        for (int row = 1; row <= 80; row++) {
            check.due("first day", x.look(row, 2), row);
            check.due("last day", x.look(row, 3), row);
        }
    }

    @Says(CHANGES_NOTHING)
    static void exclude(Check check) {
        answers(check, "no such row", 0, x -> x.exclude(4, 3) ? 1 : 0);
        answers(check, "no such land", 0, x -> x.exclude(1, 16) ? 1 : 0);
        answers(check, "excluded already", 0, x -> x.exclude(1, 0) ? 1 : 0);
    }

    @Says(CHANGES_NOTHING)
    static void condition(Check check) {
        answers(check, "no such row", 0, x -> x.condition(0, 3) ? 1 : 0);
        answers(check, "no such paper", 0, x -> x.condition(1, 16) ? 1 : 0);
        answers(check, "wanted already", 0, x -> x.condition(2, 2) ? 1 : 0);
    }

    @Says(CHANGES_NOTHING)
    static void endThatThrows(Check check) {
        fails(check, "no such row", Edges.INDEX, x -> x.end(4, 20, 100));
        fails(check, "no such last day", Edges.ARGUMENT, x -> x.end(2, 10001, 100));
        fails(check, "no such known day", Edges.ARGUMENT, x -> x.end(2, 12, 10001));
    }

    @Says(CHANGES_NOTHING)
    static void endAheadOfTheFirstDay(Check check) {
        answers(check, "row 2", 0, x -> x.end(2, 9, 100));
        answers(check, "row 3", 0, x -> x.end(3, 0, 10000));
    }

    @Says(CHANGES_NOTHING)
    static void endBeyond8(Check check) {
        MeasureRows x = Made.eightTold();
        check.fails("end", Edges.STATE, () -> x.end(1, 30, 9000));
        check.fails("end known earlier", Edges.STATE, () -> x.end(1, 5, 4));
        check.due("told", x.look(1, 7), 8);
        check.due("NOW", x.count(1), 8);
        for (int n = 2; n <= 8; n++) {
            check.due("day " + (10 + n) + " as of " + n, x.apply(100000, 0, 10 + n, n), 1);
            check.due("day " + (11 + n) + " as of " + n, x.apply(100000, 0, 11 + n, n), 0);
        }
    }

    @Says(CHANGES_NOTHING)
    static void applyThatThrows(Check check) {
        fails(check, "a code of 4 digits", Edges.ARGUMENT, x -> x.apply(1234, 3, 15, 20));
        fails(check, "no such land", Edges.ARGUMENT, x -> x.apply(123456, 16, 15, 20));
        fails(check, "no such day", Edges.ARGUMENT, x -> x.apply(123456, 3, 10001, 20));
        fails(check, "no such known day", Edges.ARGUMENT, x -> x.apply(123456, 3, 15, -1));
    }

    @Says(CHANGES_NOTHING)
    static void applyThatFindsNone(Check check) {
        answers(check, "another code", 0, x -> x.apply(990000, 3, 15, 20));
        answers(check, "ahead of all that is known", 0, x -> x.apply(123456, 3, 15, 0));
    }

    @Says(CHANGES_NOTHING)
    static void applyThatFindsNoneForWantOfPapers(Check check) {
        MeasureRows x = Made.rowsOfOneDay(2);
        x.condition(2, 0);
        check.due("row 1", x.apply(100000, 0, 1, 0), 1);
        check.due("row 2", x.apply(100000, 0, 2, 0), 0);
        check.list("the list of row 1", x, 1);
    }

    @Says(CHANGES_NOTHING)
    static void scanThatThrows(Check check) {
        fails(check, "no such code", Edges.ARGUMENT, x -> x.scan(123, 3, 15));
        fails(check, "no such land", Edges.ARGUMENT, x -> x.scan(1234, 31, 15));
        fails(check, "no such day", Edges.ARGUMENT, x -> x.scan(1234, 3, Edges.OPEN));
    }

    @Says(CHANGES_NOTHING)
    static void scanThatFindsNone(Check check) {
        answers(check, "another code", 0, x -> x.scan(99, 3, 15));
        answers(check, "ahead of all first days", 0, x -> x.scan(123456, 3, 0));
    }

    @Says(CHANGES_NOTHING)
    static void change(Check check) {
        fails(check, "no such day", Edges.ARGUMENT, x -> x.change(-1, 15, 0));
        answers(check, "none", Edges.NONE, x -> x.change(15, 15, 0));
    }

    @Says(CHANGES_NOTHING)
    static void atLookAndCount(Check check) {
        answers(check, "at", Edges.NONE, x -> x.at(3));
        answers(check, "count", Edges.NONE, x -> x.count(4));
        answers(check, "look, 0 lands", 0, x -> x.look(2, 8));
        fails(check, "look, no such row", Edges.INDEX, x -> x.look(4, 0));
        fails(check, "look, no such what", Edges.INDEX, x -> x.look(1, 10));
    }
}
