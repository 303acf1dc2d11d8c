@Part("Promise 3: ring")
public final class Promise03RingTest {
    public static void main(String[] args) {
        Sentences.run(Promise03RingTest.class);
    }

    @Says("Whether a group would be in itself if another one became its member.")
    static void withItself(Check check) {
        MeasureRows x = new MeasureRows();
        check.yes("ring(16, 16)", x.ring(16, 16));
        check.yes("ring(23, 23)", x.ring(23, 23));
    }

    @Says("Whether a group would be in itself if another one became its member.")
    static void betweenEmptyGroupsThereIsNone(Check check) {
        MeasureRows x = new MeasureRows();
        check.no("ring(16, 23)", x.ring(16, 23));
        check.no("ring(23, 16)", x.ring(23, 16));
    }

    @Says("Whether a group would be in itself if another one became its member.")
    static void alongTheLongestChain(Check check) {
        MeasureRows x = new MeasureRows();
        for (int group = 16; group <= 22; group++) {
            x.member(group, group + 1);
        }
        for (int group = 16; group <= 23; group++) {
            for (int other = 16; other <= 23; other++) {
                check.due("ring(" + group + ", " + other + ")", x.ring(group, other) ? 1 : 0, other <= group ? 1 : 0);
            }
        }
    }

    @Says("Whether a group would be in itself if another one became its member.")
    static void aMemberAlreadyIsNoRing(Check check) {
        MeasureRows x = new MeasureRows();
        x.member(16, 17);
        check.no("ring(16, 17)", x.ring(16, 17));
        check.yes("ring(17, 16)", x.ring(17, 16));
    }

    @Says("Whether a group would be in itself if another one became its member.")
    static void theQuestionJoinsNothing(Check check) {
        MeasureRows x = new MeasureRows();
        x.member(17, 3);
        x.ring(16, 17);
        check.no("has(16, 3)", x.has(16, 3));
        check.no("ring(17, 16)", x.ring(17, 16));
        check.yes("member(16, 17)", x.member(16, 17));
    }

    @Says("IndexOutOfBoundsException if there are no such groups.")
    static void noSuchGroup(Check check) {
        MeasureRows x = new MeasureRows();
        for (int group : Edges.NO_GROUPS) {
            check.fails("ring(" + group + ", 16)", Edges.INDEX, () -> x.ring(group, 16) ? 1 : 0);
            check.fails("ring(16, " + group + ")", Edges.INDEX, () -> x.ring(16, group) ? 1 : 0);
            check.fails("ring(" + group + ", " + group + ")", Edges.INDEX, () -> x.ring(group, group) ? 1 : 0);
        }
    }

    @Says("IndexOutOfBoundsException if there are no such groups.")
    static void allIsNoGroupHere(Check check) {
        MeasureRows x = new MeasureRows();
        check.fails("ring(31, 16)", Edges.INDEX, () -> x.ring(Edges.ALL, 16) ? 1 : 0);
        check.fails("ring(16, 31)", Edges.INDEX, () -> x.ring(16, Edges.ALL) ? 1 : 0);
    }

    @Says("IndexOutOfBoundsException if there are no such groups.")
    static void aLandThatIsAMemberIsNoGroup(Check check) {
        MeasureRows x = new MeasureRows();
        x.member(16, 15);
        check.fails("ring(16, 15)", Edges.INDEX, () -> x.ring(16, 15) ? 1 : 0);
        check.fails("ring(15, 16)", Edges.INDEX, () -> x.ring(15, 16) ? 1 : 0);
    }
}
