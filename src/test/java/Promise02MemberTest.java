@Part("Promise 2: member")
public final class Promise02MemberTest {
    public static void main(String[] args) {
        Sentences.run(Promise02MemberTest.class);
    }

    @Says("A land or group becomes a member of a group: true")
    static void landsOfTheEdgesBecomeMembers(Check check) {
        MeasureRows x = new MeasureRows();
        for (int group : new int[] {16, 23}) {
            for (int land : new int[] {0, 15}) {
                check.yes("member(" + group + ", " + land + ")", x.member(group, land));
                check.yes("has(" + group + ", " + land + ")", x.has(group, land));
            }
            check.no("another land", x.has(group, 1));
        }
        check.no("another group", x.has(17, 0));
    }

    @Says("A land or group becomes a member of a group: true")
    static void groupsOfTheEdgesBecomeMembers(Check check) {
        MeasureRows x = new MeasureRows();
        check.yes("member(16, 23)", x.member(16, 23));
        check.yes("member(22, 16)", x.member(22, 16));
        x.member(23, 9);
        check.yes("has(22, 9)", x.has(22, 9));
    }

    @Says("A land or group becomes a member of a group: true")
    static void aGroupMayHaveAllLandsAndAllOtherGroups(Check check) {
        MeasureRows x = new MeasureRows();
        for (int land = 0; land <= 15; land++) {
            check.yes("member(16, " + land + ")", x.member(16, land));
        }
        for (int group = 17; group <= 23; group++) {
            check.yes("member(16, " + group + ")", x.member(16, group));
        }
        check.due("count(16)", x.count(16), 16);
    }

    @Says("false if there are none such")
    static void noSuchGroup(Check check) {
        MeasureRows x = new MeasureRows();
        for (int group : Edges.NO_GROUPS) {
            check.no("member(" + group + ", 3)", x.member(group, 3));
            check.no("member(" + group + ", 17)", x.member(group, 17));
        }
        nobodyJoined(check, x);
    }

    @Says("false if there are none such")
    static void allTakesNoMembers(Check check) {
        MeasureRows x = new MeasureRows();
        check.no("member(31, 3)", x.member(Edges.ALL, 3));
        check.no("member(31, 16)", x.member(Edges.ALL, 16));
        check.no("member(31, 31)", x.member(Edges.ALL, Edges.ALL));
        nobodyJoined(check, x);
    }

    @Says("false if there are none such")
    static void noSuchLandOrGroupToJoin(Check check) {
        MeasureRows x = new MeasureRows();
        for (int place : Edges.NO_PLACES) {
            check.no("member(16, " + place + ")", x.member(16, place));
        }
        check.no("ALL joins no group", x.member(16, Edges.ALL));
        nobodyJoined(check, x);
    }

    private static void nobodyJoined(Check check, MeasureRows x) {
        for (int group = 16; group <= 23; group++) {
            check.due("count(" + group + ")", x.count(group), 0);
        }
    }

    @Says("it is one")
    static void aLandThatIsAMember(Check check) {
        MeasureRows x = new MeasureRows();
        x.member(16, 0);
        x.member(16, 15);
        check.no("member(16, 0) again", x.member(16, 0));
        check.no("member(16, 15) again", x.member(16, 15));
        check.yes("member(17, 0)", x.member(17, 0));
    }

    @Says("it is one")
    static void aGroupThatIsAMember(Check check) {
        MeasureRows x = new MeasureRows();
        x.member(16, 23);
        check.no("member(16, 23) again", x.member(16, 23));
        check.yes("member(17, 23)", x.member(17, 23));
    }

    @Says("it is one")
    static void whatIsInTheGroupByAnotherOneIsNoMemberYet(Check check) {
        MeasureRows x = new MeasureRows();
        x.member(17, 4);
        x.member(18, 17);
        x.member(16, 18);
        check.yes("member(16, 4)", x.member(16, 4));
        check.no("member(16, 4) again", x.member(16, 4));
        check.yes("member(16, 17)", x.member(16, 17));
        check.no("member(16, 17) again", x.member(16, 17));
        check.due("count(16)", x.count(16), 1);
    }

    @Says("or it would bring a RING (a group that is in itself)")
    static void aGroupJoinsNotItself(Check check) {
        MeasureRows x = new MeasureRows();
        for (int group = 16; group <= 23; group++) {
            check.no("member(" + group + ", " + group + ")", x.member(group, group));
        }
    }

    @Says("or it would bring a RING (a group that is in itself)")
    static void aRingOfTwo(Check check) {
        MeasureRows x = new MeasureRows();
        x.member(16, 17);
        check.no("member(17, 16)", x.member(17, 16));
        x.member(16, 4);
        check.no("17 has not what 16 has", x.has(17, 4));
    }

    @Says("or it would bring a RING (a group that is in itself)")
    static void aRingOfAllEight(Check check) {
        MeasureRows x = new MeasureRows();
        for (int group = 16; group <= 22; group++) {
            check.yes("member(" + group + ", " + (group + 1) + ")", x.member(group, group + 1));
        }
        for (int group = 16; group <= 22; group++) {
            check.no("member(23, " + group + ")", x.member(23, group));
        }
        check.yes("the other way round is none", x.member(16, 23));
    }

    @Says("or it would bring a RING (a group that is in itself)")
    static void aRingThatAnOlderChainCloses(Check check) {
        MeasureRows x = new MeasureRows();
        x.member(18, 19);
        x.member(16, 17);
        check.yes("two chains become one", x.member(17, 18));
        check.no("member(19, 16)", x.member(19, 16));
        check.no("member(18, 16)", x.member(18, 16));
        check.no("member(19, 17)", x.member(19, 17));
    }

    @Says("or it would bring a RING (a group that is in itself)")
    static void twoWaysToAGroupAreNoRing(Check check) {
        MeasureRows x = new MeasureRows();
        check.yes("member(16, 17)", x.member(16, 17));
        check.yes("member(16, 18)", x.member(16, 18));
        check.yes("member(17, 19)", x.member(17, 19));
        check.yes("member(18, 19)", x.member(18, 19));
        check.yes("member(16, 19)", x.member(16, 19));
    }
}
