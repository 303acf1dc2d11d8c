@Part("Promise 4: has")
public final class Promise04HasTest {
    public static void main(String[] args) {
        Sentences.run(Promise04HasTest.class);
    }

    @Says("Whether a land is in a group (or ALL).")
    static void membersOfTheEdges(Check check) {
        MeasureRows x = new MeasureRows();
        x.member(16, 0);
        x.member(23, 15);
        check.yes("has(16, 0)", x.has(16, 0));
        check.no("has(16, 1)", x.has(16, 1));
        check.no("has(16, 15)", x.has(16, 15));
        check.yes("has(23, 15)", x.has(23, 15));
        check.no("has(23, 14)", x.has(23, 14));
        check.no("has(23, 0)", x.has(23, 0));
    }

    @Says("Whether a land is in a group (or ALL).")
    static void anEmptyGroupHasNone(Check check) {
        MeasureRows x = new MeasureRows();
        x.member(16, 17);
        for (int land = 0; land <= 15; land++) {
            check.no("has(16, " + land + ")", x.has(16, land));
        }
    }

    @Says("(or ALL)")
    static void allHasEachLandWithoutMembers(Check check) {
        MeasureRows x = new MeasureRows();
        for (int land = 0; land <= 15; land++) {
            check.yes("has(31, " + land + ")", x.has(Edges.ALL, land));
        }
    }

    @Says("IndexOutOfBoundsException if there is no such land or group.")
    static void noSuchGroup(Check check) {
        MeasureRows x = new MeasureRows();
        for (int group : Edges.NO_GROUPS) {
            check.fails("has(" + group + ", 0)", Edges.INDEX, () -> x.has(group, 0) ? 1 : 0);
            check.fails("has(" + group + ", 15)", Edges.INDEX, () -> x.has(group, 15) ? 1 : 0);
        }
    }

    @Says("IndexOutOfBoundsException if there is no such land or group.")
    static void noSuchLand(Check check) {
        MeasureRows x = new MeasureRows();
        for (int land : Edges.NO_LANDS) {
            check.fails("has(16, " + land + ")", Edges.INDEX, () -> x.has(16, land) ? 1 : 0);
            check.fails("has(31, " + land + ")", Edges.INDEX, () -> x.has(Edges.ALL, land) ? 1 : 0);
        }
    }

    @Says("IndexOutOfBoundsException if there is no such land or group.")
    static void aGroupThatIsAMemberIsNoLand(Check check) {
        MeasureRows x = new MeasureRows();
        x.member(16, 17);
        check.fails("has(16, 17)", Edges.INDEX, () -> x.has(16, 17) ? 1 : 0);
    }
}
