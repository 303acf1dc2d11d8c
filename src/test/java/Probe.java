/** All that an object tells, in one text; the object is used up by it (some 300 calls). */
final class Probe {
    private static final int[] LANDS = {0, 3, 15};
    private static final int[] DAYS = {0, 5, 12, 20, 21, 10000};
    private static final int[] KNOWN = {0, 8, 15, 10000};

    private final MeasureRows x;
    private final StringBuilder text = new StringBuilder();

    private Probe(MeasureRows x) {
        this.x = x;
    }

    static String of(MeasureRows x) {
        Probe probe = new Probe(x);
        probe.counts();
        probe.list("list");
        probe.rows();
        probe.groups();
        probe.changes();
        probe.applying();
        probe.members();
        return probe.text.toString();
    }

    private void add(String name, long value) {
        text.append(name).append(' ').append(value).append(' ');
    }

    private void counts() {
        for (int what = 0; what <= 3; what++) {
            add("count" + what, x.count(what));
        }
    }

    private void list(String name) {
        text.append(name);
        for (int i = 0; i < x.count(2); i++) {
            text.append(' ').append(x.at(i));
        }
        text.append(' ');
    }

    private void rows() {
        for (int row = 1; row <= x.count(0); row++) {
            for (int what = 0; what <= 9; what++) {
                add("look" + row + "." + what, x.look(row, what));
            }
        }
    }

    private void groups() {
        for (int group = 16; group <= 23; group++) {
            add("count" + group, x.count(group));
            for (int land : LANDS) {
                add("has" + group + "." + land, x.has(group, land) ? 1 : 0);
            }
            add("ring16." + group, x.ring(16, group) ? 1 : 0);
            add("ring17." + group, x.ring(17, group) ? 1 : 0);
        }
    }

    private void changes() {
        for (int i = 0; i < 3; i++) {
            add("change", x.change(0, 15, i));
            add("change", x.change(15, 25, i));
        }
    }

    private void applying() {
        for (int day : DAYS) {
            for (int known : KNOWN) {
                // The list is read only where one was made, as 0 leaves the one of another question.
                if (x.apply(123456, 3, day, known) > 0) {
                    list("apply" + day + "." + known);
                }
            }
        }
        add("scan of an excluded land", x.scan(123456, 0, 15));
        x.papers(0);
        add("apply without papers", x.apply(123456, 3, 15, 15));
    }

    /** Asked last, as it joins those that were no members. */
    private void members() {
        for (int group = 16; group <= 23; group++) {
            add("member" + group, x.member(group, 3) ? 1 : 0);
        }
        add("member17.16", x.member(17, 16) ? 1 : 0);
    }
}
