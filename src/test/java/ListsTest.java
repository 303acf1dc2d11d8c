/** Promises 9 to 13, and of 15 the latest list and the papers. */
public final class ListsTest {
    private static final Class<IllegalArgumentException> ARGUMENT = IllegalArgumentException.class;
    private static final int OPEN = MeasureRows.OPEN;
    private static final int[] NO_DAYS = {Integer.MIN_VALUE, -1, 10001, OPEN, Integer.MAX_VALUE};
    private static final int[] NO_LANDS = {Integer.MIN_VALUE, -1, 16, 23, 24, 31, 32, Integer.MAX_VALUE};

    private final Check check = new Check();

    public static void main(String[] args) {
        ListsTest test = new ListsTest();
        test.papersAreSixteenBits();
        test.onePaperOfThoseWantedIsEnough();
        test.longerCodesBeat();
        test.greaterRanksBeat();
        test.onlyRowsThatAreThereBeat();
        test.landsDoNotBeat();
        test.kindsDoNotMix();
        test.listIsByKindAndNumber();
        test.applyAsKnownThen();
        test.edgesOfDays();
        test.wrongInputsOfApply();
        test.listStaysWhereNothingIsFound();
        test.scanGoesUpTheLevels();
        test.scanAsKnownByNow();
        test.groupsAsTheyAreNow();
        test.wrongInputsOfScan();
        test.changes();
        test.changesAsKnownByNow();
        test.wrongInputsOfChange();
        test.countsOfNothing();
        test.fullList();
        test.check.finish();
    }

    private void papersAreSixteenBits() {
        MeasureRows x = new MeasureRows();
        x.papers(5);
        check.due("9: papers(5)", x.count(3), 5);
        x.papers(2);
        check.due("9: papers(2) in the place of 5", x.count(3), 2);
        x.papers(0x12345);
        check.due("9: papers(0x12345)", x.count(3), 0x2345);
        x.papers(Integer.MIN_VALUE);
        check.due("9: papers(least)", x.count(3), 0);
        x.papers(-1);
        check.due("9: papers(-1)", x.count(3), 65535);
        x.papers(0);
        check.due("9: papers(0)", x.count(3), 0);
    }

    private void onePaperOfThoseWantedIsEnough() {
        MeasureRows x = new MeasureRows();
        x.row(10, 31, 0, OPEN, 4, 0, 0);
        x.condition(1, 0);
        x.condition(1, 15);
        int[] bits = {0, 1, 0x8000, 0x8001, 0x7FFE, 2, -1};
        int[] found = {0, 1, 1, 1, 0, 0, 1};
        for (int i = 0; i < bits.length; i++) {
            x.papers(bits[i]);
            check.due("10: papers " + bits[i], x.apply(100000, 0, 0, 0), found[i]);
            check.due("12: scan asks for no papers", x.scan(100000, 0, 0), 1);
        }
    }

    private void longerCodesBeat() {
        for (int kind = 0; kind < 8; kind++) {
            MeasureRows x = new MeasureRows();
            x.row(1234, 31, 0, 20, kind, 8, 0);
            x.row(12, 31, 0, 40, kind, 9, 0);
            x.row(123456, 31, 0, 10, kind, 0, 0);
            if (kind <= 3) {
                check.due("10: kind " + kind, x.apply(123456, 0, 10, 0), 1);
                check.list("10: six digits", x, 3);
                check.due("10: kind " + kind, x.apply(123456, 0, 11, 0), 1);
                check.list("10: four digits", x, 1);
                check.due("10: kind " + kind, x.apply(123456, 0, 21, 0), 1);
                check.list("10: two digits", x, 2);
                check.due("10: kind " + kind, x.apply(123457, 0, 0, 0), 1);
                check.list("10: another code of six", x, 1);
            } else {
                check.due("10: kind " + kind, x.apply(123456, 0, 10, 0), 3);
                check.list("10: none beats", x, 1, 2, 3);
            }
        }
    }

    private void greaterRanksBeat() {
        for (int kind = 0; kind < 8; kind++) {
            MeasureRows x = new MeasureRows();
            x.row(12, 31, 0, 9, kind, 4, 0);
            x.row(12, 5, 0, 9, kind, 5, 0);
            x.row(12, 6, 0, 9, kind, 4, 0);
            x.row(12, 7, 0, 9, kind, 3, 0);
            if (kind <= 3) {
                x.apply(120000, 5, 0, 0);
                check.list("10: a greater rank, kind " + kind, x, 2);
                x.apply(120000, 6, 0, 0);
                check.list("10: the same rank, kind " + kind, x, 1, 3);
                x.apply(120000, 7, 0, 0);
                check.list("10: a smaller rank, kind " + kind, x, 1);
            } else {
                x.apply(120000, 5, 0, 0);
                check.list("10: none beats, kind " + kind, x, 1, 2);
            }
        }
    }

    private void onlyRowsThatAreThereBeat() {
        MeasureRows x = new MeasureRows();
        x.row(12, 31, 0, 9, 2, 0, 0);
        x.row(1234, 31, 0, 9, 2, 0, 0);
        x.condition(2, 3);
        x.apply(123456, 0, 0, 0);
        check.list("10: without its paper it beats none", x, 1);
        x.papers(8);
        x.apply(123456, 0, 0, 0);
        check.list("10: with its paper it beats", x, 2);
        x.exclude(2, 0);
        x.apply(123456, 0, 0, 0);
        check.list("10: for an excluded land it beats none", x, 1);
        x.apply(123456, 1, 0, 0);
        check.list("10: for another land it beats", x, 2);
        x.row(123456, 31, 5, 9, 2, 0, 7);
        x.apply(123456, 1, 5, 6);
        check.list("10: not known it beats none", x, 2);
        x.apply(123456, 1, 4, 7);
        check.list("10: on another day it beats none", x, 2);
        x.apply(123456, 1, 5, 7);
        check.list("10: known, on its day, it beats", x, 3);
    }

    private void landsDoNotBeat() {
        MeasureRows x = new MeasureRows();
        x.member(16, 3);
        x.row(12, 31, 0, 9, 0, 1, 0);
        x.row(12, 16, 0, 9, 0, 1, 0);
        x.row(12, 3, 0, 9, 0, 1, 0);
        check.due("10: a land, its group and ALL", x.apply(120000, 3, 0, 0), 3);
        check.list("10: none beats by its land", x, 1, 2, 3);
    }

    private void kindsDoNotMix() {
        MeasureRows x = new MeasureRows();
        x.row(12, 31, 0, 9, 0, 0, 0);
        x.row(1234, 31, 0, 9, 1, 9, 0);
        x.row(123456, 31, 0, 9, 4, 9, 0);
        check.due("10: three kinds", x.apply(123456, 0, 0, 0), 3);
        check.list("10: another kind beats none", x, 1, 2, 3);
    }

    private void listIsByKindAndNumber() {
        MeasureRows x = new MeasureRows();
        x.row(12, 31, 0, 9, 7, 0, 0);
        x.row(12, 31, 0, 9, 0, 2, 0);
        x.row(1234, 31, 0, 9, 5, 0, 0);
        x.row(12, 31, 0, 9, 3, 0, 0);
        x.row(12, 31, 0, 9, 5, 9, 0);
        x.row(12, 0, 0, 9, 0, 2, 0);
        x.row(99, 0, 0, 9, 0, 2, 0);
        check.due("10: by kind", x.apply(123456, 0, 0, 0), 6);
        check.list("10: by kind, then by number", x, 2, 6, 4, 3, 5, 1);
        check.due("12: by number", x.scan(123456, 0, 0), 6);
        check.list("12: by number", x, 1, 2, 3, 4, 5, 6);
    }

    private void applyAsKnownThen() {
        MeasureRows x = new MeasureRows();
        x.row(12, 0, 0, 100, 0, 0, 10);
        x.end(1, 50, 20);
        check.due("10: as of 9", x.apply(120000, 0, 0, 9), 0);
        check.due("10: as of 10", x.apply(120000, 0, 100, 10), 1);
        check.due("10: as of 19", x.apply(120000, 0, 100, 19), 1);
        check.due("10: as of 20", x.apply(120000, 0, 100, 20), 0);
        check.due("10: as of 20", x.apply(120000, 0, 50, 20), 1);
        check.due("10: as of a day past now", x.apply(120000, 0, 50, 10000), 1);
    }

    private void edgesOfDays() {
        MeasureRows x = new MeasureRows();
        x.row(12, 0, 5, 8, 4, 0, 0);
        x.row(12, 0, 9, OPEN, 4, 0, 0);
        int[] days = {0, 4, 5, 8, 9, 10000};
        int[] rows = {0, 0, 1, 1, 2, 2};
        for (int i = 0; i < days.length; i++) {
            int due = rows[i] == 0 ? 0 : 1;
            check.due("10: day " + days[i], x.apply(120000, 0, days[i], 0), due);
            check.due("11: day " + days[i], x.at(0), due == 0 ? -1 : rows[i]);
            check.due("12: day " + days[i], x.scan(12, 0, days[i]), due);
            check.due("11: day " + days[i], x.at(0), due == 0 ? -1 : rows[i]);
        }
    }

    private void wrongInputsOfApply() {
        MeasureRows x = new MeasureRows();
        x.row(10, 31, 0, OPEN, 0, 0, 0);
        x.apply(100000, 0, 0, 0);
        for (int code : new int[] {Integer.MIN_VALUE, -100000, 0, 10, 99, 1000, 9999, 10000, 99999, 1000000,
                Integer.MAX_VALUE}) {
            check.fails("10: code " + code, ARGUMENT, () -> x.apply(code, 0, 0, 0));
        }
        for (int land : NO_LANDS) {
            check.fails("10: land " + land, ARGUMENT, () -> x.apply(100000, land, 0, 0));
        }
        for (int day : NO_DAYS) {
            check.fails("10: day " + day, ARGUMENT, () -> x.apply(100000, 0, day, 0));
            check.fails("10: known " + day, ARGUMENT, () -> x.apply(100000, 0, 0, day));
        }
        check.list("10: what throws leaves the list", x, 1);
        check.due("10: the greatest of all", x.apply(999999, 15, 10000, 10000), 0);
    }

    private void listStaysWhereNothingIsFound() {
        MeasureRows x = new MeasureRows();
        x.row(10, 31, 0, 9, 4, 0, 0);
        x.row(10, 31, 0, 9, 4, 1, 0);
        x.row(11, 31, 0, 9, 4, 0, 0);
        check.due("10: two", x.apply(100000, 0, 0, 0), 2);
        check.due("10: none", x.apply(200000, 0, 0, 0), 0);
        check.list("10: an answer of 0 changes nothing", x, 1, 2);
        check.due("12: none", x.scan(20, 0, 0), 0);
        check.list("12: an answer of 0 changes nothing", x, 1, 2);
        x.condition(3, 0);
        check.due("10: none with its papers", x.apply(110000, 0, 0, 0), 0);
        check.list("10: an answer of 0 changes nothing", x, 1, 2);
        check.due("12: one", x.scan(11, 0, 0), 1);
        check.list("12: a shorter list", x, 3);
        x.row(20, 31, 0, 9, 4, 0, 0);
        x.change(0, 10, 0);
        x.exclude(3, 0);
        check.list("11: the list is as it was found", x, 3);
    }

    private void scanGoesUpTheLevels() {
        MeasureRows x = new MeasureRows();
        x.row(123456, 31, 0, 9, 0, 0, 0);
        x.row(12, 31, 0, 9, 0, 0, 0);
        x.row(1234, 31, 0, 9, 0, 0, 0);
        x.row(1212, 31, 0, 9, 0, 0, 0);
        x.row(121212, 31, 0, 9, 0, 0, 0);
        x.row(34, 31, 0, 9, 0, 0, 0);
        check.due("12: scan(12)", x.scan(12, 0, 0), 1);
        check.list("12: scan(12)", x, 2);
        check.due("12: scan(1234)", x.scan(1234, 0, 0), 2);
        check.list("12: scan(1234)", x, 2, 3);
        check.due("12: scan(123456)", x.scan(123456, 0, 0), 3);
        check.list("12: scan(123456), beaten ones too", x, 1, 2, 3);
        check.due("12: scan(121212)", x.scan(121212, 0, 0), 3);
        check.list("12: scan(121212)", x, 2, 4, 5);
        check.due("12: scan(123400)", x.scan(123400, 0, 0), 2);
        check.list("12: scan(123400)", x, 2, 3);
        check.due("12: scan(3412)", x.scan(3412, 0, 0), 1);
        check.list("12: scan(3412)", x, 6);
        check.due("12: scan(2345)", x.scan(2345, 0, 0), 0);
    }

    private void scanAsKnownByNow() {
        MeasureRows x = new MeasureRows();
        x.row(12, 0, 0, 100, 0, 0, 9000);
        check.due("12: known late, of an early day", x.scan(12, 0, 0), 1);
        x.end(1, 50, 9500);
        check.due("12: within the end told", x.scan(12, 0, 50), 1);
        check.due("12: past the end told", x.scan(12, 0, 51), 0);
        x.end(1, 70, 9400);
        check.due("12: past the end known latest", x.scan(12, 0, 51), 0);
    }

    private void groupsAsTheyAreNow() {
        MeasureRows x = new MeasureRows();
        x.row(12, 16, 0, 9, 0, 0, 0);
        x.row(12, 3, 0, 9, 0, 1, 0);
        check.due("12: the group has none", x.scan(12, 4, 0), 0);
        x.member(17, 4);
        x.member(16, 17);
        check.due("12: the group has it now", x.scan(12, 4, 0), 1);
        check.list("12: the group's row", x, 1);
        check.due("10: the group has it now", x.apply(120000, 4, 0, 0), 1);
        check.due("12: another land", x.scan(12, 3, 0), 1);
        check.list("12: a land's own row", x, 2);
        x.exclude(1, 4);
        check.due("12: in the group, and excluded", x.scan(12, 4, 0), 0);
        x.exclude(2, 3);
        check.due("12: its own land excluded", x.scan(12, 3, 0), 0);
    }

    private void wrongInputsOfScan() {
        MeasureRows x = new MeasureRows();
        x.row(10, 31, 0, OPEN, 0, 0, 0);
        x.scan(10, 0, 0);
        for (int code : new int[] {Integer.MIN_VALUE, -10, 0, 9, 100, 999, 10000, 99999, 1000000,
                Integer.MAX_VALUE}) {
            check.fails("12: code " + code, ARGUMENT, () -> x.scan(code, 0, 0));
        }
        for (int land : NO_LANDS) {
            check.fails("12: land " + land, ARGUMENT, () -> x.scan(10, land, 0));
        }
        for (int day : NO_DAYS) {
            check.fails("12: day " + day, ARGUMENT, () -> x.scan(10, 0, day));
        }
        check.list("12: what throws leaves the list", x, 1);
        check.due("12: the last day and land", x.scan(10, 15, 10000), 1);
    }

    private void changes() {
        MeasureRows x = new MeasureRows();
        x.row(10, 0, 0, 10, 0, 0, 0);
        x.row(11, 1, 10, 20, 0, 0, 0);
        x.row(12, 16, 11, OPEN, 0, 0, 0);
        x.row(13, 31, 0, OPEN, 0, 0, 0);
        x.row(14, 31, 12, 13, 0, 0, 0);
        x.exclude(1, 0);
        x.condition(1, 0);
        x.scan(1300, 0, 0);
        int[][] want = {{10, 11, 1, 3}, {11, 10, 1, 3}, {9, 10, 2}, {0, 15, 1, 2, 3}, {12, 21, 2, 5},
            {0, 10000, 1, 3}, {7, 7}, {11, 14}};
        for (int[] w : want) {
            String call = "13: change(" + w[0] + ", " + w[1] + ", ";
            for (int i = 2; i < w.length; i++) {
                check.due(call + (i - 2) + ")", x.change(w[0], w[1], i - 2), w[i]);
            }
            check.due(call + "past the last)", x.change(w[0], w[1], w.length - 2), -1);
            check.due(call + "-1)", x.change(w[0], w[1], -1), -1);
            check.due(call + "greatest)", x.change(w[0], w[1], Integer.MAX_VALUE), -1);
            check.due(call + "least)", x.change(w[0], w[1], Integer.MIN_VALUE), -1);
        }
        check.list("13: change makes no list", x, 4);
    }

    private void changesAsKnownByNow() {
        MeasureRows x = new MeasureRows();
        x.row(10, 0, 5, 100, 0, 0, 9000);
        check.due("13: both days", x.change(5, 100, 0), -1);
        x.end(1, 50, 9500);
        check.due("13: one of them now", x.change(5, 100, 0), 1);
        x.end(1, 100, 9499);
        check.due("13: one of them still", x.change(5, 100, 0), 1);
        x.end(1, OPEN, 9500);
        check.due("13: both again", x.change(5, 100, 0), -1);
    }

    private void wrongInputsOfChange() {
        MeasureRows x = new MeasureRows();
        for (int day : NO_DAYS) {
            check.fails("13: change(" + day + ", 0, 0)", ARGUMENT, () -> x.change(day, 0, 0));
            check.fails("13: change(0, " + day + ", 0)", ARGUMENT, () -> x.change(0, day, 0));
            check.fails("13: change(" + day + ", 0, -1)", ARGUMENT, () -> x.change(day, 0, -1));
        }
    }

    private void countsOfNothing() {
        MeasureRows x = new MeasureRows();
        for (int what : new int[] {Integer.MIN_VALUE, -1, 4, 15, 24, 31, 32, Integer.MAX_VALUE}) {
            check.due("15: count(" + what + ")", x.count(what), -1);
        }
        for (int i : new int[] {Integer.MIN_VALUE, -1, 0, 79, 80, Integer.MAX_VALUE}) {
            check.due("11: at(" + i + ")", x.at(i), -1);
        }
    }

    private void fullList() {
        MeasureRows x = new MeasureRows();
        int[] all = new int[80];
        for (int i = 0; i < 80; i++) {
            all[i] = x.row(10, i < 40 ? 31 : 0, 0, 9, 4 + i / 10 % 4, i % 10, 0);
        }
        check.due("12: all of 80", x.scan(10, 0, 0), 80);
        check.list("12: all of 80", x, all);
        check.due("10: all of 80", x.apply(100000, 0, 0, 0), 80);
        check.due("11: at(9)", x.at(9), 10);
        check.due("11: at(10)", x.at(10), 41);
        check.due("11: at(20)", x.at(20), 11);
        check.due("11: at(79)", x.at(79), 80);
        check.due("11: at(80)", x.at(80), -1);
        check.due("13: the 80th", x.change(0, 10, 79), 80);
        check.due("13: the 81st", x.change(0, 10, 80), -1);
    }
}
