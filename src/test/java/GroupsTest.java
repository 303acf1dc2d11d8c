/** Promises 1 to 4, and the part of 15 that counts the lands of a group. */
public final class GroupsTest {
    private static final Class<IndexOutOfBoundsException> INDEX = IndexOutOfBoundsException.class;
    private static final int[] NO_GROUPS = {
        Integer.MIN_VALUE, -1, 0, 15, 24, 30, 32, 48, 55, Integer.MAX_VALUE
    };
    private static final int[] NO_LANDS = {
        Integer.MIN_VALUE, -16, -1, 16, 23, 24, 31, 32, 35, Integer.MAX_VALUE
    };

    private final Check check = new Check();

    public static void main(String[] args) {
        GroupsTest test = new GroupsTest();
        test.newObject();
        test.membersAreLandsAndGroups();
        test.noSuchMembers();
        test.landsAreInGroupsOfGroups();
        test.ringsAreRefused();
        test.twoWaysAreNoRing();
        test.longestChain();
        test.wrongInputsOfRing();
        test.wrongInputsOfHas();
        test.lateMembersReachTheWholeChain();
        test.check.finish();
    }

    private void newObject() {
        MeasureRows x = new MeasureRows();
        for (int what = 0; what <= 3; what++) {
            check.due("1: new count(" + what + ")", x.count(what), 0);
        }
        for (int g = 16; g <= 23; g++) {
            check.due("1: new count(" + g + ")", x.count(g), 0);
            for (int land = 0; land < 16; land++) {
                check.no("1: new has(" + g + ", " + land + ")", x.has(g, land));
            }
            for (int other = 16; other <= 23; other++) {
                check.due("1: new ring(" + g + ", " + other + ")", x.ring(g, other) ? 1 : 0, g == other ? 1 : 0);
            }
        }
        check.list("1: new list", x);
        check.due("1: new change", x.change(0, 10000, 0), -1);
        check.due("1: new scan", x.scan(10, 0, 0), 0);
        check.due("1: new apply", x.apply(100000, 0, 0, 0), 0);
        check.fails("1: new look", INDEX, () -> x.look(1, 0));
    }

    private void membersAreLandsAndGroups() {
        MeasureRows x = new MeasureRows();
        check.yes("2: member(16, 0)", x.member(16, 0));
        check.yes("2: member(16, 15)", x.member(16, 15));
        check.no("2: member(16, 0) again", x.member(16, 0));
        check.yes("2: member(23, 0)", x.member(23, 0));
        check.yes("2: member(23, 16)", x.member(23, 16));
        check.no("2: member(23, 16) again", x.member(23, 16));
        check.yes("2: member(23, 15), which was in it by 16 alone", x.member(23, 15));
        check.no("2: member(23, 15) again", x.member(23, 15));
        check.due("15: count(16)", x.count(16), 2);
        check.due("15: count(23)", x.count(23), 2);
        check.due("15: count(17)", x.count(17), 0);
    }

    private void noSuchMembers() {
        MeasureRows x = new MeasureRows();
        for (int g : NO_GROUPS) {
            check.no("2: member(" + g + ", 3)", x.member(g, 3));
            check.no("2: member(" + g + ", 17)", x.member(g, 17));
        }
        check.no("2: ALL takes no member", x.member(31, 3));
        for (int land : new int[] {Integer.MIN_VALUE, -1, 24, 30, 31, 32, 35, Integer.MAX_VALUE}) {
            check.no("2: member(16, " + land + ")", x.member(16, land));
        }
        for (int g = 16; g <= 23; g++) {
            check.due("2: nothing joined " + g, x.count(g), 0);
        }
    }

    private void landsAreInGroupsOfGroups() {
        MeasureRows x = new MeasureRows();
        x.member(18, 7);
        x.member(17, 18);
        x.member(16, 17);
        x.member(16, 2);
        check.yes("4: has(18, 7)", x.has(18, 7));
        check.yes("4: has(17, 7)", x.has(17, 7));
        check.yes("4: has(16, 7)", x.has(16, 7));
        check.yes("4: has(16, 2)", x.has(16, 2));
        check.no("4: has(17, 2)", x.has(17, 2));
        check.no("4: has(18, 2)", x.has(18, 2));
        check.no("4: has(19, 7)", x.has(19, 7));
        check.due("15: count(16)", x.count(16), 2);
        check.due("15: count(17)", x.count(17), 1);
        for (int land = 0; land < 16; land++) {
            check.yes("4: has(31, " + land + ")", x.has(31, land));
        }
    }

    private void ringsAreRefused() {
        MeasureRows x = new MeasureRows();
        check.no("2: member(20, 20)", x.member(20, 20));
        check.yes("3: ring(20, 20)", x.ring(20, 20));
        x.member(16, 17);
        x.member(17, 18);
        check.yes("3: ring(17, 16)", x.ring(17, 16));
        check.yes("3: ring(18, 16)", x.ring(18, 16));
        check.yes("3: ring(18, 17)", x.ring(18, 17));
        check.no("3: ring(16, 17), a member already", x.ring(16, 17));
        check.no("3: ring(16, 18)", x.ring(16, 18));
        check.no("3: ring(16, 19)", x.ring(16, 19));
        check.no("3: ring(19, 16)", x.ring(19, 16));
        check.no("2: member(18, 16)", x.member(18, 16));
        check.no("2: member(17, 16)", x.member(17, 16));
        x.member(16, 4);
        check.no("2: a refused ring changed nothing", x.has(18, 4));
        check.no("3: ring asks, it joins nothing", x.has(19, 4));
        check.yes("2: member(19, 16) after ring(19, 16)", x.member(19, 16));
    }

    private void twoWaysAreNoRing() {
        MeasureRows x = new MeasureRows();
        check.yes("2: member(16, 17)", x.member(16, 17));
        check.yes("2: member(16, 18)", x.member(16, 18));
        check.yes("2: member(17, 19)", x.member(17, 19));
        check.yes("2: member(18, 19)", x.member(18, 19));
        check.yes("2: member(16, 19)", x.member(16, 19));
        check.yes("2: member(19, 5)", x.member(19, 5));
        check.due("15: a land on three ways counts once", x.count(16), 1);
        check.yes("3: ring(19, 16)", x.ring(19, 16));
    }

    private void longestChain() {
        MeasureRows x = new MeasureRows();
        for (int g = 16; g < 23; g++) {
            check.yes("2: member(" + g + ", " + (g + 1) + ")", x.member(g, g + 1));
        }
        for (int land = 0; land < 16; land++) {
            x.member(23, land);
        }
        for (int g = 16; g <= 23; g++) {
            check.due("15: count(" + g + ")", x.count(g), 16);
            check.yes("4: has(" + g + ", 15)", x.has(g, 15));
        }
        check.yes("3: ring(23, 16)", x.ring(23, 16));
        check.no("3: ring(16, 23)", x.ring(16, 23));
        check.no("2: member(23, 16)", x.member(23, 16));
    }

    private void wrongInputsOfRing() {
        MeasureRows x = new MeasureRows();
        for (int g : NO_GROUPS) {
            check.fails("3: ring(" + g + ", 16)", INDEX, () -> x.ring(g, 16) ? 1 : 0);
            check.fails("3: ring(16, " + g + ")", INDEX, () -> x.ring(16, g) ? 1 : 0);
        }
        check.fails("3: ring(31, 16)", INDEX, () -> x.ring(31, 16) ? 1 : 0);
        check.fails("3: ring(16, 31)", INDEX, () -> x.ring(16, 31) ? 1 : 0);
    }

    private void wrongInputsOfHas() {
        MeasureRows x = new MeasureRows();
        for (int g : NO_GROUPS) {
            check.fails("4: has(" + g + ", 0)", INDEX, () -> x.has(g, 0) ? 1 : 0);
        }
        for (int land : NO_LANDS) {
            check.fails("4: has(16, " + land + ")", INDEX, () -> x.has(16, land) ? 1 : 0);
            check.fails("4: has(31, " + land + ")", INDEX, () -> x.has(31, land) ? 1 : 0);
        }
    }

    private void lateMembersReachTheWholeChain() {
        MeasureRows x = new MeasureRows();
        x.member(16, 17);
        x.member(17, 18);
        x.member(19, 20);
        x.member(20, 9);
        check.no("4: has(16, 9) ahead", x.has(16, 9));
        check.yes("2: member(18, 19)", x.member(18, 19));
        check.yes("4: has(16, 9)", x.has(16, 9));
        check.yes("4: has(18, 9)", x.has(18, 9));
        x.member(20, 10);
        check.yes("4: has(16, 10)", x.has(16, 10));
        check.yes("3: ring(20, 16)", x.ring(20, 16));
        check.no("3: ring(16, 20)", x.ring(16, 20));
    }
}
