@Part("Promise 15: count")
public final class Promise15CountTest {
    public static void main(String[] args) {
        Sentences.run(Promise15CountTest.class);
    }

    @Says("what 0: rows")
    static void from0To80(Check check) {
        MeasureRows x = new MeasureRows();
        for (int i = 1; i <= 80; i++) {
            check.due("count(0)", x.count(0), i - 1);
            x.row(10, 0, i, i, 0, 0, 0);
        }
        check.due("count(0)", x.count(0), 80);
        check.fails("the 81st", Edges.STATE, () -> x.row(10, 0, 81, 81, 0, 0, 0));
        check.due("count(0)", x.count(0), 80);
    }

    @Says("1: NOW (the greatest day on which something became known; 0 at first)")
    static void nowIs0AtFirst(Check check) {
        MeasureRows x = new MeasureRows();
        check.due("count(1)", x.count(1), 0);
        x.row(10, 0, 900, 900, 0, 0, 0);
        check.due("count(1), after a row known on day 0", x.count(1), 0);
    }

    @Says("the greatest day on which something became known")
    static void rowsAndEndsMoveNowOnAndNeverBack(Check check) {
        MeasureRows x = new MeasureRows();
        x.row(10, 0, 900, 900, 0, 0, 7);
        check.due("a row", x.count(1), 7);
        x.row(11, 0, 900, 900, 0, 0, 3);
        check.due("a row known earlier", x.count(1), 7);
        x.end(2, 950, 12);
        check.due("an end", x.count(1), 12);
        x.end(1, 950, 11);
        check.due("an end known earlier", x.count(1), 12);
        x.row(12, 0, 0, 0, 0, 0, 10000);
        check.due("a row known on the last of days", x.count(1), 10000);
    }

    @Says("the greatest day on which something became known")
    static void anEndKnownOnTheLastOfDays(Check check) {
        MeasureRows x = Made.oneRow(5, 9, 0);
        x.end(1, 9, 10000);
        check.due("count(1)", x.count(1), 10000);
    }

    @Says("the greatest day on which something became known")
    static void questionsMakeNothingKnown(Check check) {
        MeasureRows x = Made.oneRow(5, 9, 3);
        x.apply(100000, 0, 9, 5000);
        x.scan(10, 0, 9);
        x.change(5, 9000, 0);
        check.due("count(1)", x.count(1), 3);
    }

    @Says("2: rows in the latest list")
    static void from0To80Listed(Check check) {
        MeasureRows x = Made.fullOfLand5();
        check.due("no list", x.count(2), 0);
        x.scan(10, 5, 0);
        check.due("80", x.count(2), 80);
        x.apply(100000, 6, 0, 0);
        check.due("40", x.count(2), 40);
    }

    @Says("3: papers that are there, as bits")
    static void from0To65535(Check check) {
        MeasureRows x = new MeasureRows();
        check.due("none", x.count(3), 0);
        x.papers(65535);
        check.due("all", x.count(3), 65535);
        x.papers(65536);
        check.due("none of the sixteen", x.count(3), 0);
    }

    @Says("from 16 to 23 how many lands are in that group")
    static void from0To16Lands(Check check) {
        for (int group : new int[] {16, 23}) {
            MeasureRows x = new MeasureRows();
            for (int land = 0; land <= 15; land++) {
                check.due("count(" + group + ")", x.count(group), land);
                x.member(group, land);
            }
            check.due("count(" + group + ")", x.count(group), 16);
            check.due("another group", x.count(17), 0);
        }
    }

    @Says("from 16 to 23 how many lands are in that group")
    static void landsOfGroupsInIt(Check check) {
        MeasureRows x = new MeasureRows();
        for (int group = 16; group <= 22; group++) {
            x.member(group, group + 1);
        }
        check.due("groups alone are no lands", x.count(16), 0);
        for (int land = 0; land <= 15; land++) {
            x.member(23, land);
        }
        for (int group = 16; group <= 23; group++) {
            check.due("count(" + group + ")", x.count(group), 16);
        }
    }

    @Says("from 16 to 23 how many lands are in that group")
    static void aLandOnSeveralWaysCountsOnce(Check check) {
        MeasureRows x = new MeasureRows();
        x.member(17, 5);
        x.member(18, 5);
        x.member(16, 17);
        x.member(16, 18);
        x.member(16, 5);
        check.due("count(16)", x.count(16), 1);
    }

    @Says("NONE for another what")
    static void anotherWhat(Check check) {
        MeasureRows x = Made.lively();
        for (int what : new int[] {Edges.LEAST, -16, -1, 4, 5, 14, 15, 24, 25, 30, 32, 48, Edges.GREATEST}) {
            check.due("count(" + what + ")", x.count(what), Edges.NONE);
        }
    }

    @Says("NONE for another what")
    static void allIsNotCounted(Check check) {
        check.due("count(31)", new MeasureRows().count(Edges.ALL), Edges.NONE);
    }
}
