/** Codes, lands, groups, days, and what a row has. */
@Part("Terms")
public final class TermsLimitsTest {
    public static void main(String[] args) {
        Sentences.run(TermsLimitsTest.class);
    }

    @Says("A CODE has 2, 4 or 6 digits, the first one not 0")
    static void codesOf2And4And6Digits(Check check) {
        for (int code : Edges.EDGE_CODES) {
            MeasureRows x = new MeasureRows();
            check.due("row of " + code, x.row(code, 0, 0, 0, 0, 0, 0), 1);
            check.due("scan of " + code, x.scan(code, 0, 0), 1);
            check.due("look of " + code, x.look(1, 0), code);
        }
    }

    @Says("A CODE has 2, 4 or 6 digits, the first one not 0")
    static void codesOf1And3And5And7Digits(Check check) {
        MeasureRows x = new MeasureRows();
        for (int code : new int[] {0, 9, 100, 999, 10000, 99999, 1000000, 9999999, Edges.GREATEST}) {
            check.fails("row of " + code, Edges.ARGUMENT, () -> x.row(code, 0, 0, 0, 0, 0, 0));
            check.fails("scan of " + code, Edges.ARGUMENT, () -> x.scan(code, 0, 0));
            check.fails("apply to " + code, Edges.ARGUMENT, () -> x.apply(code, 0, 0, 0));
        }
    }

    @Says("A CODE has 2, 4 or 6 digits, the first one not 0")
    static void codesBelow0(Check check) {
        MeasureRows x = new MeasureRows();
        for (int code : new int[] {-1, -10, -99, -1000, -9999, -100000, -999999, Edges.LEAST}) {
            check.fails("row of " + code, Edges.ARGUMENT, () -> x.row(code, 0, 0, 0, 0, 0, 0));
            check.fails("scan of " + code, Edges.ARGUMENT, () -> x.scan(code, 0, 0));
            check.fails("apply to " + code, Edges.ARGUMENT, () -> x.apply(code, 0, 0, 0));
        }
    }

    private static int scanned(int rowCode, int code) {
        MeasureRows x = new MeasureRows();
        x.row(rowCode, 0, 0, 0, 0, 0, 0);
        return x.scan(code, 0, 0);
    }

    @Says("it is UNDER another one if that is its beginning (or the same)")
    static void underItsBeginnings(Check check) {
        check.due("123456 under 12", scanned(12, 123456), 1);
        check.due("123456 under 1234", scanned(1234, 123456), 1);
        check.due("1234 under 12", scanned(12, 1234), 1);
        check.due("120000 under 12", scanned(12, 120000), 1);
        check.due("129999 under 12", scanned(12, 129999), 1);
        check.due("123400 under 1234", scanned(1234, 123400), 1);
        check.due("123499 under 1234", scanned(1234, 123499), 1);
    }

    @Says("it is UNDER another one if that is its beginning (or the same)")
    static void underTheSame(Check check) {
        check.due("12 under 12", scanned(12, 12), 1);
        check.due("1234 under 1234", scanned(1234, 1234), 1);
        check.due("123456 under 123456", scanned(123456, 123456), 1);
    }

    @Says("it is UNDER another one if that is its beginning (or the same)")
    static void notUnderALongerOne(Check check) {
        check.due("12 under 1234", scanned(1234, 12), 0);
        check.due("12 under 123456", scanned(123456, 12), 0);
        check.due("1234 under 123456", scanned(123456, 1234), 0);
    }

    @Says("it is UNDER another one if that is its beginning (or the same)")
    static void notUnderItsMiddleItsEndOrANeighbour(Check check) {
        check.due("123456 under 34", scanned(34, 123456), 0);
        check.due("123456 under 56", scanned(56, 123456), 0);
        check.due("123456 under 3456", scanned(3456, 123456), 0);
        check.due("123456 under 2345", scanned(2345, 123456), 0);
        check.due("1234 under 34", scanned(34, 1234), 0);
        check.due("119999 under 12", scanned(12, 119999), 0);
        check.due("130000 under 12", scanned(12, 130000), 0);
        check.due("123399 under 1234", scanned(1234, 123399), 0);
        check.due("123500 under 1234", scanned(1234, 123500), 0);
    }

    @Says("LANDS are 0 .. 15.")
    static void lands0And15(Check check) {
        for (int land : new int[] {0, 15}) {
            MeasureRows x = new MeasureRows();
            check.yes("member", x.member(16, land));
            check.yes("has", x.has(16, land));
            check.due("row", x.row(10, land, 0, 0, 0, 0, 0), 1);
            check.due("scan", x.scan(10, land, 0), 1);
            check.due("apply", x.apply(100000, land, 0, 0), 1);
            check.yes("exclude", x.exclude(1, land));
        }
    }

    @Says("LANDS are 0 .. 15.")
    static void noLandsBesideThem(Check check) {
        MeasureRows x = Made.oneRow(0, 9, 0);
        for (int land : new int[] {-1, 16}) {
            check.fails("has(16, " + land + ")", Edges.INDEX, () -> x.has(16, land) ? 1 : 0);
            check.fails("scan of " + land, Edges.ARGUMENT, () -> x.scan(10, land, 0));
            check.fails("apply to " + land, Edges.ARGUMENT, () -> x.apply(100000, land, 0, 0));
            check.no("exclude " + land, x.exclude(1, land));
        }
        check.no("member(16, -1)", x.member(16, -1));
        check.fails("row of -1", Edges.ARGUMENT, () -> x.row(10, -1, 0, 0, 0, 0, 0));
    }

    @Says("GROUPS 16 .. 23 have MEMBERS: lands and other groups")
    static void groups16And23(Check check) {
        MeasureRows x = new MeasureRows();
        check.yes("member(16, 23)", x.member(16, 23));
        check.yes("member(23, 4)", x.member(23, 4));
        check.due("count(16)", x.count(16), 1);
        check.due("count(23)", x.count(23), 1);
        check.due("row of 16", x.row(10, 16, 0, 0, 0, 0, 0), 1);
        check.due("row of 23", x.row(10, 23, 0, 0, 0, 0, 0), 2);
        check.due("scan of 4", x.scan(10, 4, 0), 2);
    }

    @Says("GROUPS 16 .. 23 have MEMBERS: lands and other groups")
    static void noGroupsBesideThem(Check check) {
        MeasureRows x = new MeasureRows();
        for (int group : new int[] {15, 24}) {
            check.no("member(" + group + ", 4)", x.member(group, 4));
            check.fails("has(" + group + ", 4)", Edges.INDEX, () -> x.has(group, 4) ? 1 : 0);
            check.fails("ring(" + group + ", 16)", Edges.INDEX, () -> x.ring(group, 16) ? 1 : 0);
            check.due("count(" + group + ")", x.count(group), Edges.NONE);
        }
        check.no("member(16, 24)", x.member(16, 24));
        check.fails("row of 24", Edges.ARGUMENT, () -> x.row(10, 24, 0, 0, 0, 0, 0));
    }

    @Says("GROUPS 16 .. 23 have MEMBERS: lands and other groups")
    static void otherGroupsAndNotItself(Check check) {
        MeasureRows x = new MeasureRows();
        check.no("member(16, 16)", x.member(16, 16));
        check.yes("member(16, 17)", x.member(16, 17));
    }

    @Says("a land is IN a group if it is a member of it, or in a group that is one.")
    static void inAGroupByAChainOfEight(Check check) {
        MeasureRows x = new MeasureRows();
        x.member(23, 7);
        for (int group = 22; group >= 16; group--) {
            x.member(group, group + 1);
        }
        for (int group = 16; group <= 23; group++) {
            check.yes("has(" + group + ", 7)", x.has(group, 7));
            check.no("has(" + group + ", 6)", x.has(group, 6));
        }
    }

    @Says("a land is IN a group if it is a member of it, or in a group that is one.")
    static void inAllGroupsAboveItHoweverLateItsGroupJoined(Check check) {
        MeasureRows x = new MeasureRows();
        x.member(16, 17);
        x.member(17, 18);
        x.member(19, 20);
        x.member(20, 9);
        check.no("has(16, 9) ahead", x.has(16, 9));
        x.member(18, 19);
        check.yes("has(16, 9)", x.has(16, 9));
        check.yes("has(17, 9)", x.has(17, 9));
        check.yes("has(18, 9)", x.has(18, 9));
        x.member(20, 10);
        check.yes("has(16, 10), which joined last", x.has(16, 10));
    }

    @Says("a land is IN a group if it is a member of it, or in a group that is one.")
    static void notInTheGroupsBelow(Check check) {
        MeasureRows x = new MeasureRows();
        x.member(16, 17);
        x.member(16, 2);
        check.no("has(17, 2)", x.has(17, 2));
        check.due("count(17)", x.count(17), 0);
    }

    @Says("ALL is 31: each land is in it.")
    static void eachLandIsInAll(Check check) {
        MeasureRows x = new MeasureRows();
        x.row(10, Edges.ALL, 0, 0, 0, 0, 0);
        for (int land = 0; land <= 15; land++) {
            check.yes("has(31, " + land + ")", x.has(31, land));
            check.due("scan of " + land, x.scan(10, land, 0), 1);
        }
    }

    @Says("ALL is 31: each land is in it.")
    static void neither30Nor32IsAll(Check check) {
        MeasureRows x = new MeasureRows();
        for (int place : new int[] {30, 32}) {
            check.fails("has(" + place + ", 0)", Edges.INDEX, () -> x.has(place, 0) ? 1 : 0);
            check.fails("row of " + place, Edges.ARGUMENT, () -> x.row(10, place, 0, 0, 0, 0, 0));
        }
    }

    @Says("DAYS are 0 .. 10000; OPEN is 20000.")
    static void days0And10000(Check check) {
        for (int day : new int[] {0, 10000}) {
            MeasureRows x = new MeasureRows();
            check.due("row", x.row(10, 0, day, day, 0, 0, day), 1);
            check.due("end", x.end(1, day, day), 2);
            check.due("apply", x.apply(100000, 0, day, day), 1);
            check.due("scan", x.scan(10, 0, day), 1);
            check.due("change", x.change(day, day, 0), Edges.NONE);
        }
    }

    @Says("DAYS are 0 .. 10000; OPEN is 20000.")
    static void noDaysBesideThem(Check check) {
        MeasureRows x = Made.oneRow(0, Edges.OPEN, 0);
        for (int day : new int[] {-1, 10001}) {
            check.fails("row from " + day, Edges.ARGUMENT, () -> x.row(11, 0, day, Edges.OPEN, 0, 0, 0));
            check.fails("row to " + day, Edges.ARGUMENT, () -> x.row(11, 0, 0, day, 0, 0, 0));
            check.fails("row known " + day, Edges.ARGUMENT, () -> x.row(11, 0, 0, 9, 0, 0, day));
            check.fails("end on " + day, Edges.ARGUMENT, () -> x.end(1, day, 0));
            check.fails("end known " + day, Edges.ARGUMENT, () -> x.end(1, 9, day));
            check.fails("apply on " + day, Edges.ARGUMENT, () -> x.apply(100000, 0, day, 0));
            check.fails("apply known " + day, Edges.ARGUMENT, () -> x.apply(100000, 0, 0, day));
            check.fails("scan on " + day, Edges.ARGUMENT, () -> x.scan(10, 0, day));
            check.fails("change from " + day, Edges.ARGUMENT, () -> x.change(day, 0, 0));
            check.fails("change to " + day, Edges.ARGUMENT, () -> x.change(0, day, 0));
        }
    }

    @Says("OPEN is 20000.")
    static void neither19999Nor20001IsOpen(Check check) {
        MeasureRows x = Made.oneRow(0, 20000, 0);
        check.due("look(1, 3)", x.look(1, 3), Edges.OPEN);
        for (int day : new int[] {19999, 20001}) {
            check.fails("row to " + day, Edges.ARGUMENT, () -> x.row(11, 0, 0, day, 0, 0, 0));
            check.fails("end on " + day, Edges.ARGUMENT, () -> x.end(1, day, 0));
        }
    }

    @Says("ROWS 1, 2, .. (80 at most)")
    static void rows1To80(Check check) {
        MeasureRows x = Made.rowsOfOneDay(80);
        check.due("look(1, 2)", x.look(1, 2), 1);
        check.due("look(80, 2)", x.look(80, 2), 80);
        check.fails("look(0, 2)", Edges.INDEX, () -> x.look(0, 2));
        check.fails("look(81, 2)", Edges.INDEX, () -> x.look(81, 2));
        check.fails("row", Edges.STATE, () -> x.row(10, 0, 90, 90, 0, 0, 0));
    }

    @Says("have a code, a land, group or ALL, a first and a LAST DAY (or OPEN)")
    static void aLandAGroupOrAll(Check check) {
        MeasureRows x = new MeasureRows();
        x.member(16, 3);
        x.row(10, 3, 0, Edges.OPEN, 0, 0, 0);
        x.row(10, 16, 0, Edges.OPEN, 0, 0, 0);
        x.row(10, Edges.ALL, 0, Edges.OPEN, 0, 0, 0);
        check.due("scan of 3", x.scan(10, 3, 10000), 3);
        check.due("scan of 4", x.scan(10, 4, 10000), 1);
        check.list("scan of 4", x, 3);
    }

    @Says("a first and a LAST DAY (or OPEN)")
    static void anOpenRowHasTheLastOfDays(Check check) {
        MeasureRows x = new MeasureRows();
        x.row(10, 0, 10000, Edges.OPEN, 0, 0, 0);
        check.due("day 9999", x.scan(10, 0, 9999), 0);
        check.due("day 10000", x.scan(10, 0, 10000), 1);
    }

    @Says("a KIND 0 .. 7, a RANK 0 .. 9")
    static void kindsAndRanks(Check check) {
        MeasureRows x = new MeasureRows();
        check.due("kind 0, rank 0", x.row(10, 0, 0, 0, 0, 0, 0), 1);
        check.due("kind 7, rank 9", x.row(10, 0, 0, 0, 7, 9, 0), 2);
        check.fails("kind -1", Edges.ARGUMENT, () -> x.row(10, 0, 0, 0, -1, 0, 0));
        check.fails("kind 8", Edges.ARGUMENT, () -> x.row(10, 0, 0, 0, 8, 0, 0));
        check.fails("rank -1", Edges.ARGUMENT, () -> x.row(10, 0, 0, 0, 0, -1, 0));
        check.fails("rank 10", Edges.ARGUMENT, () -> x.row(10, 0, 0, 0, 0, 10, 0));
    }

    @Says("lands that are EXCLUDED (4 at most)")
    static void fourLandsAndNoFifth(Check check) {
        MeasureRows x = Made.oneRow(0, 9, 0);
        for (int land = 0; land < 5; land++) {
            check.due("exclude(1, " + land + ")", x.exclude(1, land) ? 1 : 0, land < 4 ? 1 : 0);
        }
        for (int land = 0; land < 5; land++) {
            check.due("scan of " + land, x.scan(10, land, 0), land < 4 ? 0 : 1);
        }
    }

    @Says("PAPERS (0 .. 15, 4 at most)")
    static void fourPapersAndNoFifth(Check check) {
        MeasureRows x = Made.oneRow(0, 9, 0);
        check.no("paper -1", x.condition(1, -1));
        check.no("paper 16", x.condition(1, 16));
        for (int paper : new int[] {0, 15, 1, 14}) {
            check.yes("paper " + paper, x.condition(1, paper));
        }
        check.no("a fifth one", x.condition(1, 2));
    }

    @Says("of which one must be there, if there are any")
    static void oneOfFourIsEnough(Check check) {
        MeasureRows x = Made.oneRow(0, 9, 0);
        int[] papers = {0, 5, 10, 15};
        for (int paper : papers) {
            x.condition(1, paper);
        }
        for (int paper : papers) {
            x.papers(1 << paper);
            check.due("paper " + paper + " alone", x.apply(100000, 0, 0, 0), 1);
        }
        x.papers(0x8421);
        check.due("all four", x.apply(100000, 0, 0, 0), 1);
        x.papers(0xFFFF & ~0x8421);
        check.due("all but the four", x.apply(100000, 0, 0, 0), 0);
        x.papers(0);
        check.due("none", x.apply(100000, 0, 0, 0), 0);
    }

    @Says("of which one must be there, if there are any")
    static void aRowThatWantsNoneNeedsNone(Check check) {
        MeasureRows x = Made.oneRow(0, 9, 0);
        check.due("no papers", x.apply(100000, 0, 0, 0), 1);
        x.papers(0xFFFF);
        check.due("all papers", x.apply(100000, 0, 0, 0), 1);
    }

    @Says("and the day on which they became KNOWN")
    static void eachRowHasItsOwnKnownDay(Check check) {
        MeasureRows x = new MeasureRows();
        x.row(10, 0, 0, 0, 0, 0, 10000);
        x.row(11, 0, 0, 0, 0, 0, 0);
        check.due("look(1, 6)", x.look(1, 6), 10000);
        check.due("look(2, 6)", x.look(2, 6), 0);
    }

    @Says("The constants: `NONE = -1`: None.")
    static void none(Check check) {
        check.due("NONE", MeasureRows.NONE, -1);
    }

    @Says("`OPEN = 20000`: A day that never comes.")
    static void open(Check check) {
        check.due("OPEN", MeasureRows.OPEN, 20000);
        MeasureRows x = Made.oneRow(0, MeasureRows.OPEN, 0);
        check.fails("scan on OPEN", Edges.ARGUMENT, () -> x.scan(10, 0, MeasureRows.OPEN));
        check.fails("change to OPEN", Edges.ARGUMENT, () -> x.change(0, MeasureRows.OPEN, 0));
    }
}
