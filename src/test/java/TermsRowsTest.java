/** What a row is of, which rows apply, and which clash. */
@Part("Terms")
public final class TermsRowsTest {
    public static void main(String[] args) {
        Sentences.run(TermsRowsTest.class);
    }

    @Says("a last day that is told later is known from a day on, too")
    static void notKnownAheadOfThatDay(Check check) {
        MeasureRows x = Made.oneRow(5, 9, 0);
        x.end(1, 12, 30);
        check.due("day 12 as of 29", x.apply(100000, 0, 12, 29), 0);
        check.due("day 12 as of 30", x.apply(100000, 0, 12, 30), 1);
        check.due("day 12 as of 31", x.apply(100000, 0, 12, 31), 1);
    }

    @Says("as of a day a row has, of the last days known by then, the one that became known latest")
    static void theOneKnownLatestAndNotTheOneToldLast(Check check) {
        MeasureRows x = Made.oneRow(5, 9, 20);
        x.end(1, 40, 50);
        x.end(1, 6, 49);
        check.due("by now", x.look(1, 3), 40);
        check.due("day 9 as of 48", x.apply(100000, 0, 9, 48), 1);
        check.due("day 10 as of 48", x.apply(100000, 0, 10, 48), 0);
        check.due("day 6 as of 49", x.apply(100000, 0, 6, 49), 1);
        check.due("day 7 as of 49", x.apply(100000, 0, 7, 49), 0);
        check.due("day 40 as of 50", x.apply(100000, 0, 40, 50), 1);
        check.due("day 41 as of 50", x.apply(100000, 0, 41, 50), 0);
    }

    @Says("as of a day a row has, of the last days known by then, the one that became known latest")
    static void theOneKnownLatestAndNotTheGreatest(Check check) {
        MeasureRows x = Made.oneRow(5, Edges.OPEN, 0);
        x.end(1, 7, 1);
        check.due("a smaller one", x.look(1, 3), 7);
        x.end(1, 8, 2);
        check.due("a greater one", x.look(1, 3), 8);
        x.end(1, 5, 3);
        check.due("the smallest", x.look(1, 3), 5);
    }

    @Says("as of a day a row has, of the last days known by then, the one that became known latest")
    static void anEndKnownAheadOfTheRowItself(Check check) {
        MeasureRows x = Made.oneRow(5, 9, 20);
        check.due("end", x.end(1, 30, 19), 2);
        check.due("by now the row's own counts", x.look(1, 3), 9);
        check.due("as of 19 the row is not known", x.apply(100000, 0, 9, 19), 0);
        check.due("day 9 as of 20", x.apply(100000, 0, 9, 20), 1);
        check.due("day 10 as of 20", x.apply(100000, 0, 10, 20), 0);
    }

    @Says("as of a day a row has, of the last days known by then, the one that became known latest")
    static void eachOfEightAsOfItsDay(Check check) {
        MeasureRows x = Made.eightTold();
        check.due("day 9 as of 1", x.apply(100000, 0, 9, 1), 1);
        check.due("day 10 as of 1", x.apply(100000, 0, 10, 1), 0);
        for (int n = 2; n <= 8; n++) {
            check.due("day " + (10 + n) + " as of " + n, x.apply(100000, 0, 10 + n, n), 1);
            check.due("day " + (11 + n) + " as of " + n, x.apply(100000, 0, 11 + n, n), 0);
        }
    }

    @Says("(of one day the one told last)")
    static void ofOneDayTheOneToldLast(Check check) {
        MeasureRows x = Made.oneRow(5, 9, 20);
        x.end(1, 12, 20);
        check.due("with the row itself", x.look(1, 3), 12);
        x.end(1, 7, 20);
        check.due("a third one", x.look(1, 3), 7);
        x.end(1, 30, 40);
        x.end(1, 25, 40);
        check.due("on another day", x.look(1, 3), 25);
        check.due("day 7 as of 39", x.apply(100000, 0, 7, 39), 1);
        check.due("day 8 as of 39", x.apply(100000, 0, 8, 39), 0);
    }

    @Says("A ROW IS OF a code, land and day, as known on another day, if it was known by then")
    static void knownByThen(Check check) {
        MeasureRows x = Made.oneRow(5, 9, 20);
        check.due("as of 19", x.apply(100000, 0, 5, 19), 0);
        check.due("as of 20", x.apply(100000, 0, 5, 20), 1);
        check.due("as of 21", x.apply(100000, 0, 5, 21), 1);
    }

    @Says("the code is under its code")
    static void theCodeUnderItsCodeAndNotTheOtherWayRound(Check check) {
        MeasureRows x = new MeasureRows();
        x.row(1234, Edges.ALL, 0, 9, 0, 0, 0);
        check.due("scan(12)", x.scan(12, 0, 0), 0);
        check.due("scan(1234)", x.scan(1234, 0, 0), 1);
        check.due("scan(123400)", x.scan(123400, 0, 0), 1);
        check.due("apply(123499)", x.apply(123499, 0, 0, 0), 1);
        check.due("apply(123500)", x.apply(123500, 0, 0, 0), 0);
    }

    @Says("the land is its land or in its group (as groups are now)")
    static void groupsAsTheyAreNow(Check check) {
        MeasureRows x = new MeasureRows();
        x.row(12, 16, 0, 9, 0, 0, 0);
        check.due("an empty group", x.scan(12, 4, 0), 0);
        x.member(17, 4);
        x.member(16, 17);
        check.due("scan", x.scan(12, 4, 0), 1);
        check.due("apply, as known ahead of it too", x.apply(120000, 4, 0, 0), 1);
        check.due("another land", x.scan(12, 5, 0), 0);
    }

    @Says("the land is its land or in its group (as groups are now)")
    static void itsLandAndNoNeighbour(Check check) {
        for (int land : new int[] {0, 15}) {
            MeasureRows x = new MeasureRows();
            x.row(12, land, 0, 9, 0, 0, 0);
            for (int other = 0; other <= 15; other++) {
                check.due("row of " + land + ", scan of " + other, x.scan(12, other, 0), other == land ? 1 : 0);
            }
        }
    }

    @Says("the land is its land or in its group (as groups are now)")
    static void aLandsGroupsMakeNoRowOfTheLandTheirs(Check check) {
        MeasureRows x = new MeasureRows();
        x.member(16, 3);
        x.member(16, 4);
        x.row(12, 3, 0, 9, 0, 0, 0);
        check.due("scan of 4", x.scan(12, 4, 0), 0);
    }

    @Says("and not excluded")
    static void excludedFromALandAGroupAndAll(Check check) {
        MeasureRows x = new MeasureRows();
        x.member(16, 3);
        x.member(16, 4);
        x.row(12, 3, 0, 9, 0, 0, 0);
        x.row(12, 16, 0, 9, 0, 0, 0);
        x.row(12, Edges.ALL, 0, 9, 0, 0, 0);
        check.due("scan of 3", x.scan(12, 3, 0), 3);
        for (int row = 1; row <= 3; row++) {
            x.exclude(row, 3);
            check.due("scan of 3", x.scan(12, 3, 0), 3 - row);
        }
        check.due("scan of 4", x.scan(12, 4, 0), 2);
    }

    @Says("and not excluded")
    static void excludedStaysSoHoweverItJoins(Check check) {
        MeasureRows x = new MeasureRows();
        x.row(12, 16, 0, 9, 0, 0, 0);
        x.exclude(1, 3);
        x.member(16, 3);
        check.due("scan of 3", x.scan(12, 3, 0), 0);
    }

    @Says("and the day lies between its first and its last one (both belong to it)")
    static void bothDaysBelongToIt(Check check) {
        MeasureRows x = Made.oneRow(5, 8, 0);
        int[] days = {0, 4, 5, 6, 8, 9, 10000};
        int[] due = {0, 0, 1, 1, 1, 0, 0};
        for (int i = 0; i < days.length; i++) {
            check.due("scan of day " + days[i], x.scan(10, 0, days[i]), due[i]);
            check.due("apply to day " + days[i], x.apply(100000, 0, days[i], 0), due[i]);
        }
    }

    @Says("and the day lies between its first and its last one (both belong to it)")
    static void aRowOfOneDay(Check check) {
        MeasureRows x = Made.oneRow(5, 5, 0);
        check.due("day 4", x.scan(10, 0, 4), 0);
        check.due("day 5", x.scan(10, 0, 5), 1);
        check.due("day 6", x.scan(10, 0, 6), 0);
    }

    @Says("THE ROWS THAT APPLY: all rows of these whose papers are there")
    static void rowsWithoutTheirPapersDoNotApply(Check check) {
        MeasureRows x = new MeasureRows();
        x.row(12, Edges.ALL, 0, 9, 4, 0, 0);
        x.row(12, Edges.ALL, 0, 9, 4, 1, 0);
        x.condition(2, 15);
        x.apply(120000, 0, 0, 0);
        check.list("without paper 15", x, 1);
        x.papers(0x8000);
        x.apply(120000, 0, 0, 0);
        check.list("with paper 15", x, 1, 2);
    }

    @Says("of KINDS 0 .. 3 only those that none of them BEATS")
    static void kinds0To3AreBeatenAnd4To7AreNot(Check check) {
        for (int kind = 0; kind <= 7; kind++) {
            MeasureRows x = new MeasureRows();
            x.row(12, Edges.ALL, 0, 9, kind, 0, 0);
            x.row(12, Edges.ALL, 0, 9, kind, 1, 0);
            x.row(1234, Edges.ALL, 0, 9, kind, 0, 0);
            check.due("kind " + kind, x.apply(123456, 0, 0, 0), kind <= 3 ? 1 : 3);
            check.due("kind " + kind, x.at(0), kind <= 3 ? 3 : 1);
        }
    }

    @Says("of KINDS 0 .. 3 only those that none of them BEATS")
    static void aRowThatDoesNotApplyBeatsNone(Check check) {
        MeasureRows x = new MeasureRows();
        x.row(12, Edges.ALL, 0, 9, 3, 0, 0);
        x.row(1234, Edges.ALL, 5, 8, 3, 0, 7);
        x.condition(2, 3);
        x.exclude(2, 1);
        x.apply(123456, 0, 5, 7);
        check.list("without its paper", x, 1);
        x.papers(8);
        x.apply(123456, 0, 5, 7);
        check.list("with its paper", x, 2);
        x.apply(123456, 1, 5, 7);
        check.list("for a land excluded", x, 1);
        x.apply(123456, 0, 5, 6);
        check.list("ahead of its known day", x, 1);
        x.apply(123456, 0, 4, 7);
        check.list("ahead of its first day", x, 1);
        x.apply(123456, 0, 9, 7);
        check.list("behind its last day", x, 1);
        x.apply(123556, 0, 5, 7);
        check.list("for another code", x, 1);
    }

    @Says("of KINDS 0 .. 3 only those that none of them BEATS")
    static void aBeatenRowIsOutThoughItBeatsOthers(Check check) {
        MeasureRows x = new MeasureRows();
        x.row(12, Edges.ALL, 0, 9, 0, 9, 0);
        x.row(1234, Edges.ALL, 0, 9, 0, 0, 0);
        x.row(1234, Edges.ALL, 0, 9, 0, 5, 0);
        x.row(123456, Edges.ALL, 0, 9, 0, 0, 0);
        x.row(123456, Edges.ALL, 0, 9, 0, 1, 0);
        check.due("apply", x.apply(123456, 0, 0, 0), 1);
        check.list("apply", x, 5);
    }

    @Says("a row beats another one of the same kind")
    static void ofAnotherKindItBeatsNone(Check check) {
        MeasureRows x = new MeasureRows();
        x.row(12, Edges.ALL, 0, 9, 0, 0, 0);
        x.row(1234, Edges.ALL, 0, 9, 1, 9, 0);
        x.row(123456, Edges.ALL, 0, 9, 4, 9, 0);
        check.due("apply", x.apply(123456, 0, 0, 0), 3);
        check.list("apply", x, 1, 2, 3);
    }

    @Says("if its code is longer")
    static void aLongerCodeOfRank0BeatsRank9(Check check) {
        MeasureRows x = new MeasureRows();
        x.row(1234, Edges.ALL, 0, 20, 0, 9, 0);
        x.row(12, Edges.ALL, 0, 40, 0, 9, 0);
        x.row(123456, Edges.ALL, 0, 10, 0, 0, 0);
        x.apply(123456, 0, 10, 0);
        check.list("6 digits of rank 0", x, 3);
        x.apply(123456, 0, 11, 0);
        check.list("4 digits", x, 1);
        x.apply(123456, 0, 21, 0);
        check.list("2 digits", x, 2);
        x.end(1, 40, 0);
        x.row(9912, Edges.ALL, 0, 40, 0, 0, 0);
        x.row(99, Edges.ALL, 0, 40, 0, 9, 0);
        x.apply(991200, 0, 0, 0);
        check.list("4 digits of rank 0", x, 4);
    }

    @Says("or the codes are as long and its rank is greater.")
    static void aGreaterRankBeatsAndTheSameDoesNot(Check check) {
        MeasureRows x = new MeasureRows();
        x.row(12, Edges.ALL, 0, 9, 0, 4, 0);
        x.row(12, 5, 0, 9, 0, 5, 0);
        x.row(12, 6, 0, 9, 0, 4, 0);
        x.row(12, 7, 0, 9, 0, 3, 0);
        x.apply(120000, 5, 0, 0);
        check.list("rank 5 against 4", x, 2);
        x.apply(120000, 6, 0, 0);
        check.list("rank 4 against 4", x, 1, 3);
        x.apply(120000, 7, 0, 0);
        check.list("rank 3 against 4", x, 1);
    }

    @Says("or the codes are as long and its rank is greater.")
    static void ranks0And9(Check check) {
        MeasureRows x = new MeasureRows();
        x.row(12, Edges.ALL, 0, 9, 3, 9, 0);
        x.row(12, Edges.ALL, 0, 9, 3, 0, 0);
        x.apply(120000, 0, 0, 0);
        check.list("apply", x, 1);
    }

    @Says("or the codes are as long and its rank is greater.")
    static void aLandBeatsNeitherItsGroupNorAll(Check check) {
        MeasureRows x = new MeasureRows();
        x.member(16, 3);
        x.row(12, Edges.ALL, 0, 9, 0, 1, 0);
        x.row(12, 16, 0, 9, 0, 1, 0);
        x.row(12, 3, 0, 9, 0, 1, 0);
        check.due("apply", x.apply(120000, 3, 0, 0), 3);
        check.list("apply", x, 1, 2, 3);
    }

    @Says("TWO ROWS CLASH if code, land (or group), kind and rank are the same")
    static void onlyWhereAllFourAreTheSame(Check check) {
        MeasureRows x = new MeasureRows();
        x.row(1234, 16, 5, 9, 4, 3, 0);
        check.due("all four the same", x.row(1234, 16, 5, 9, 4, 3, 0), -2);
        check.due("another code", x.row(1235, 16, 5, 9, 4, 3, 0), 2);
        check.due("a shorter code", x.row(12, 16, 5, 9, 4, 3, 0), 3);
        check.due("a longer code", x.row(123400, 16, 5, 9, 4, 3, 0), 4);
        check.due("another group", x.row(1234, 17, 5, 9, 4, 3, 0), 5);
        check.due("another kind", x.row(1234, 16, 5, 9, 5, 3, 0), 6);
        check.due("another rank", x.row(1234, 16, 5, 9, 4, 4, 0), 7);
    }

    @Says("land (or group)")
    static void aLandItsGroupAndAllAreNotTheSame(Check check) {
        MeasureRows x = new MeasureRows();
        x.member(16, 3);
        x.row(12, 3, 5, 9, 4, 3, 0);
        check.due("its group", x.row(12, 16, 5, 9, 4, 3, 0), 2);
        check.due("ALL", x.row(12, Edges.ALL, 5, 9, 4, 3, 0), 3);
        check.due("the land again", x.row(12, 3, 5, 9, 4, 3, 0), -2);
        check.due("the group again", x.row(12, 16, 5, 9, 4, 3, 0), -3);
        check.due("ALL again", x.row(12, Edges.ALL, 5, 9, 4, 3, 0), -4);
    }

    @Says("TWO ROWS CLASH if code, land (or group), kind and rank are the same")
    static void excludedLandsPapersAndKnownDaysAreNoMatter(Check check) {
        MeasureRows x = new MeasureRows();
        x.row(12, 3, 5, 9, 4, 3, 0);
        x.exclude(1, 3);
        x.condition(1, 3);
        check.due("excluded and wanting", x.row(12, 3, 5, 9, 4, 3, 0), -2);
        check.due("known on another day", x.row(12, 3, 5, 9, 4, 3, 10000), -2);
    }

    @Says("and there is a day within both")
    static void theEdgesOfTheDays(Check check) {
        MeasureRows x = Made.oneRow(5, 9, 0);
        int[][] clashing = {{5, 9}, {0, 5}, {9, 9}, {5, 5}, {7, 7}, {9, 10000}, {0, Edges.OPEN}, {0, 10000}};
        for (int[] days : clashing) {
            check.due(days[0] + " .. " + days[1], x.row(10, Edges.ALL, days[0], days[1], 0, 0, 0), -2);
        }
        check.due("0 .. 4", x.row(10, Edges.ALL, 0, 4, 0, 0, 0), 2);
        check.due("10 .. OPEN", x.row(10, Edges.ALL, 10, Edges.OPEN, 0, 0, 0), 3);
    }

    @Says("and there is a day within both")
    static void openRowsMeetOnTheLastOfDays(Check check) {
        MeasureRows x = Made.oneRow(5, Edges.OPEN, 0);
        check.due("10000 .. OPEN", x.row(10, Edges.ALL, 10000, Edges.OPEN, 0, 0, 0), -2);
        check.due("10000 .. 10000", x.row(10, Edges.ALL, 10000, 10000, 0, 0, 0), -2);
        check.due("0 .. 4", x.row(10, Edges.ALL, 0, 4, 0, 0, 0), 2);
    }

    @Says("as they are known by now (the greatest day on which something became known; with all last days told)")
    static void withAllLastDaysTold(Check check) {
        MeasureRows x = Made.oneRow(5, Edges.OPEN, 3);
        x.end(1, 50, 9000);
        check.due("50, known ahead of the end", x.row(10, Edges.ALL, 50, 50, 0, 0, 0), -2);
        check.due("51, known ahead of the end", x.row(10, Edges.ALL, 51, 60, 0, 0, 0), 2);
        x.end(1, 100, 8999);
        check.due("70, an end known earlier", x.row(10, Edges.ALL, 70, 70, 0, 0, 0), 3);
        x.end(1, 100, 9000);
        check.due("80, an end known as late", x.row(10, Edges.ALL, 80, 80, 0, 0, 0), -2);
        check.due("101", x.row(10, Edges.ALL, 101, 101, 0, 0, 0), 4);
    }

    @Says("as they are known by now (the greatest day on which something became known; with all last days told)")
    static void withARowKnownLaterThanTheNewOne(Check check) {
        MeasureRows x = Made.oneRow(5, 9, 10000);
        check.due("known on day 0", x.row(10, Edges.ALL, 9, 12, 0, 0, 0), -2);
    }

    @Says("as they are known by now (the greatest day on which something became known; with all last days told)")
    static void anEarlierRowThatWasMadeToReachIsLeastToo(Check check) {
        MeasureRows x = Made.rowsOfOneDay(3);
        x.end(1, 3, 0);
        check.due("day 3", x.row(10, 0, 3, 3, 0, 0, 0), -2);
        check.due("day 4", x.row(10, 0, 4, 4, 0, 0, 0), 4);
    }
}
