@Part("Promise 1: A new object")
public final class Promise01NewObjectTest {
    public static void main(String[] args) {
        Sentences.run(Promise01NewObjectTest.class);
    }

    @Says("No rows")
    static void noRows(Check check) {
        MeasureRows x = new MeasureRows();
        check.due("count(0)", x.count(0), 0);
        check.due("count(1)", x.count(1), 0);
        check.list("no list yet", x);
        check.fails("look(1, 0)", Edges.INDEX, () -> x.look(1, 0));
        check.fails("end(1, 0, 0)", Edges.INDEX, () -> x.end(1, 0, 0));
        check.no("exclude(1, 0)", x.exclude(1, 0));
        check.no("condition(1, 0)", x.condition(1, 0));
        check.due("change(0, 10000, 0)", x.change(0, 10000, 0), Edges.NONE);
        check.due("scan(10, 0, 0)", x.scan(10, 0, 0), 0);
        check.due("apply(100000, 0, 0, 0)", x.apply(100000, 0, 0, 0), 0);
        check.list("nothing was listed", x);
        check.due("the first row's number", x.row(10, 0, 0, 0, 0, 0, 0), 1);
    }

    @Says("groups without members")
    static void groupsWithoutMembers(Check check) {
        MeasureRows x = new MeasureRows();
        for (int group = 16; group <= 23; group++) {
            check.due("count(" + group + ")", x.count(group), 0);
            for (int land = 0; land <= 15; land++) {
                check.no("has(" + group + ", " + land + ")", x.has(group, land));
            }
            for (int other = 16; other <= 23; other++) {
                check.due("ring(" + group + ", " + other + ")", x.ring(group, other) ? 1 : 0, group == other ? 1 : 0);
            }
        }
    }

    @Says("no papers")
    static void noPapers(Check check) {
        MeasureRows x = new MeasureRows();
        check.due("count(3)", x.count(3), 0);
        for (int paper = 0; paper <= 15; paper++) {
            int row = x.row(10, Edges.ALL, 0, 0, 4 + paper / 10, paper % 10, 0);
            x.condition(row, paper);
        }
        check.due("apply, each row wanting a paper", x.apply(100000, 0, 0, 0), 0);
    }

    @Says("No rows; groups without members; no papers.")
    static void objectsShareNothing(Check check) {
        MeasureRows first = Made.lively();
        MeasureRows second = new MeasureRows();
        check.due("another object's rows", second.count(0), 0);
        check.due("another object's papers", second.count(3), 0);
        check.due("another object's list", second.count(2), 0);
        check.no("another object's groups", second.has(16, 3));
        check.due("the first one's rows", first.count(0), 3);
    }
}
