import java.util.ArrayList;
import java.util.HashSet;
import java.util.List;
import java.util.Random;
import java.util.Set;

/**
 * Drawn runs of calls against a model that says the document's terms day by day and text by text,
 * without any of the class's own short cuts. The seeds are fixed, so each run is the same each time.
 */
public final class ModelTest {
    private static final int RUNS = 400;
    private static final int CALLS = 512;
    private static final String INDEX = "IndexOutOfBoundsException";
    private static final String ARGUMENT = "IllegalArgumentException";
    private static final String STATE = "IllegalStateException";

    private static final class ModelRow {
        int code, land, from, kind, rank, known;
        final List<int[]> told = new ArrayList<>();
        final Set<Integer> excluded = new HashSet<>();
        final Set<Integer> wanted = new HashSet<>();
    }

    private static final class Model {
        final List<Set<Integer>> members = new ArrayList<>();
        final List<ModelRow> rows = new ArrayList<>();
        final Set<Integer> papers = new HashSet<>();
        List<Integer> list = new ArrayList<>();

        Model() {
            for (int g = 0; g < 24; g++) {
                members.add(new HashSet<>());
            }
        }

        static boolean land(int l) { return 0 <= l && l <= 15; }
        static boolean group(int g) { return 16 <= g && g <= 23; }
        static boolean day(int d) { return 0 <= d && d <= 10000; }
        static boolean code(int c) { return ("" + c).matches("[1-9]([0-9]|[0-9]{3}|[0-9]{5})"); }

        boolean isIn(int group, int what) {
            for (int m : members.get(group)) {
                if (m == what || group(m) && isIn(m, what)) {
                    return true;
                }
            }
            return false;
        }

        boolean ring(int group, int other) {
            return group == other || isIn(other, group);
        }

        int now() {
            int now = 0;
            for (ModelRow r : rows) {
                for (int[] t : r.told) {
                    now = Math.max(now, t[1]);
                }
            }
            return now;
        }

        int last(ModelRow r, int asOf) {
            for (int known = asOf; known >= 0; known--) {
                for (int t = r.told.size() - 1; t >= 0; t--) {
                    if (r.told.get(t)[1] == known) {
                        return r.told.get(t)[0];
                    }
                }
            }
            return -1;
        }

        boolean isOn(ModelRow r, int day, int asOf) {
            return day >= r.from && day <= last(r, asOf);
        }

        boolean isOf(ModelRow r, int code, int land, int day, int asOf) {
            boolean there = r.land == 31 || r.land == land || group(r.land) && isIn(r.land, land);
            return r.known <= asOf && ("" + code).startsWith("" + r.code) && there
                    && !r.excluded.contains(land) && isOn(r, day, asOf);
        }

        boolean beats(ModelRow a, ModelRow b) {
            int longer = ("" + a.code).length() - ("" + b.code).length();
            return a.kind == b.kind && (longer > 0 || longer == 0 && a.rank > b.rank);
        }

        boolean hasPapers(ModelRow r) {
            for (int p : r.wanted) {
                if (papers.contains(p)) {
                    return true;
                }
            }
            return r.wanted.isEmpty();
        }

        List<Integer> applying(int code, int land, int day, int asOf) {
            List<ModelRow> there = new ArrayList<>();
            for (ModelRow r : rows) {
                if (isOf(r, code, land, day, asOf) && hasPapers(r)) {
                    there.add(r);
                }
            }
            List<Integer> found = new ArrayList<>();
            for (ModelRow r : there) {
                boolean beaten = false;
                for (ModelRow other : there) {
                    beaten |= r.kind <= 3 && beats(other, r);
                }
                if (!beaten) {
                    found.add(rows.indexOf(r) + 1);
                }
            }
            found.sort((a, b) -> rows.get(a - 1).kind != rows.get(b - 1).kind
                    ? rows.get(a - 1).kind - rows.get(b - 1).kind : a - b);
            return found;
        }

        ModelRow row(int number) {
            return number >= 1 && number <= rows.size() ? rows.get(number - 1) : null;
        }

        String member(int[] a) {
            if (!group(a[0]) || !land(a[1]) && !group(a[1])) return "0";
            if (group(a[1]) && ring(a[0], a[1])) return "0";
            return members.get(a[0]).add(a[1]) ? "1" : "0";
        }

        String makeRow(int[] a) {
            if (!code(a[0]) || !(land(a[1]) || group(a[1]) || a[1] == 31)) return ARGUMENT;
            if (!day(a[2]) || !(day(a[3]) || a[3] == 20000) || !day(a[6])) return ARGUMENT;
            if (a[4] < 0 || a[4] > 7 || a[5] < 0 || a[5] > 9 || a[3] < a[2]) return ARGUMENT;
            if (rows.size() == 80) return STATE;
            for (ModelRow r : rows) {
                if (r.code == a[0] && r.land == a[1] && r.kind == a[4] && r.rank == a[5]) {
                    for (int day = a[2]; day <= 10000 && day <= a[3]; day++) {
                        if (day >= r.from && day <= last(r, 10000)) return "" + (-1 - rows.indexOf(r) - 1);
                    }
                }
            }
            ModelRow r = new ModelRow();
            r.code = a[0];
            r.land = a[1];
            r.from = a[2];
            r.kind = a[4];
            r.rank = a[5];
            r.known = a[6];
            r.told.add(new int[] {a[3], a[6]});
            rows.add(r);
            return "" + rows.size();
        }

        String mark(ModelRow r, Set<Integer> marks, int mark) {
            return r != null && land(mark) && marks.size() < 4 && marks.add(mark) ? "1" : "0";
        }

        String end(int[] a) {
            ModelRow r = row(a[0]);
            if (r == null) return INDEX;
            if (!(day(a[1]) || a[1] == 20000) || !day(a[2])) return ARGUMENT;
            if (r.told.size() == 8) return STATE;
            if (a[1] < r.from) return "0";
            r.told.add(new int[] {a[1], a[2]});
            return "" + r.told.size();
        }

        String listing(List<Integer> found) {
            if (!found.isEmpty()) {
                list = found;
            }
            return "" + found.size();
        }

        String apply(int[] a) {
            if (!code(a[0]) || a[0] < 100000 || !land(a[1]) || !day(a[2]) || !day(a[3])) return ARGUMENT;
            return listing(applying(a[0], a[1], a[2], a[3]));
        }

        String scan(int[] a) {
            if (!code(a[0]) || !land(a[1]) || !day(a[2])) return ARGUMENT;
            List<Integer> found = new ArrayList<>();
            for (int n = 1; n <= rows.size(); n++) {
                if (isOf(row(n), a[0], a[1], a[2], now())) {
                    found.add(n);
                }
            }
            return listing(found);
        }

        String change(int[] a) {
            if (!day(a[0]) || !day(a[1])) return ARGUMENT;
            List<Integer> found = new ArrayList<>();
            for (int n = 1; n <= rows.size(); n++) {
                if (isOn(row(n), a[0], now()) ^ isOn(row(n), a[1], now())) {
                    found.add(n);
                }
            }
            return "" + (a[2] >= 0 && a[2] < found.size() ? found.get(a[2]) : -1);
        }

        String look(int[] a) {
            ModelRow r = row(a[0]);
            if (r == null || a[1] < 0 || a[1] > 9) return INDEX;
            return "" + new int[] {r.code, r.land, r.from, last(r, now()), r.kind, r.rank, r.known,
                r.told.size(), r.excluded.size(), r.wanted.size()}[a[1]];
        }

        String count(int what) {
            int lands = 0;
            if (group(what)) {
                for (int l = 0; l < 16; l++) {
                    lands += isIn(what, l) ? 1 : 0;
                }
                return "" + lands;
            }
            int bits = 0;
            for (int p : papers) {
                bits += 1 << p;
            }
            return "" + (what == 0 ? rows.size() : what == 1 ? now() : what == 2 ? list.size() : what == 3 ? bits : -1);
        }

        String tell(int method, int[] a) {
            ModelRow r = row(a[0]);
            switch (method) {
                case 0: return member(a);
                case 1: return !group(a[0]) || !group(a[1]) ? INDEX : ring(a[0], a[1]) ? "1" : "0";
                case 2: return !group(a[0]) && a[0] != 31 || !land(a[1]) ? INDEX
                        : a[0] == 31 || isIn(a[0], a[1]) ? "1" : "0";
                case 3: return makeRow(a);
                case 4: return mark(r, r == null ? null : r.excluded, a[1]);
                case 5: return mark(r, r == null ? null : r.wanted, a[1]);
                case 6: return end(a);
                case 7:
                    papers.clear();
                    for (int p = 0; p < 16; p++) {
                        if ((a[0] & 1 << p) != 0) {
                            papers.add(p);
                        }
                    }
                    return "void";
                case 8: return apply(a);
                case 9: return "" + (a[0] >= 0 && a[0] < list.size() ? list.get(a[0]) : -1);
                case 10: return scan(a);
                case 11: return change(a);
                case 12: return look(a);
                default: return count(a[0]);
            }
        }
    }

    private static String ask(MeasureRows x, int method, int[] a) {
        try {
            switch (method) {
                case 0: return x.member(a[0], a[1]) ? "1" : "0";
                case 1: return x.ring(a[0], a[1]) ? "1" : "0";
                case 2: return x.has(a[0], a[1]) ? "1" : "0";
                case 3: return "" + x.row(a[0], a[1], a[2], a[3], a[4], a[5], a[6]);
                case 4: return x.exclude(a[0], a[1]) ? "1" : "0";
                case 5: return x.condition(a[0], a[1]) ? "1" : "0";
                case 6: return "" + x.end(a[0], a[1], a[2]);
                case 7:
                    x.papers(a[0]);
                    return "void";
                case 8: return "" + x.apply(a[0], a[1], a[2], a[3]);
                case 9: return "" + x.at(a[0]);
                case 10: return "" + x.scan(a[0], a[1], a[2]);
                case 11: return "" + x.change(a[0], a[1], a[2]);
                case 12: return "" + x.look(a[0], a[1]);
                default: return "" + x.count(a[0]);
            }
        } catch (RuntimeException e) {
            return e.getClass().getSimpleName();
        }
    }

    private static final String[] NAMES = {"member", "ring", "has", "row", "exclude", "condition", "end",
        "papers", "apply", "at", "scan", "change", "look", "count"};
    // How often each is drawn: rows and ends often, so that 80 rows and 8 last days are reached.
    private static final int[] OFTEN = {6, 2, 3, 34, 7, 5, 14, 3, 20, 10, 8, 8, 8, 5};
    // What each argument is: c code, C code of six, l land, p land or group, g group, d day, e last day,
    // k kind, r rank, n row, i small number, b bits.
    private static final String[] SHAPES = {"gp", "gg", "gl", "cpdekrd", "nl", "nl", "ned", "b", "Cldd", "i",
        "cld", "ddi", "ni", "i"};
    private static final int[] CODES = {12, 1234, 123456, 1212, 121212, 123412, 99, 9999, 999999, 123457};
    private static final int[] SIX_DIGITS = {121212, 123412, 123457, 999999, 9999};
    private static final int[] WRONG = {Integer.MIN_VALUE, -1, 9, 24, 30, 31, 32, 100, 10001, 20000, 20001,
        1000000, Integer.MAX_VALUE};

    private static int draw(Random random, char shape, int spread, int rareness) {
        if (random.nextInt(rareness) == 0) {
            return WRONG[random.nextInt(WRONG.length)];
        }
        switch (shape) {
            case 'c': return CODES[random.nextInt(CODES.length)];
            case 'C': return random.nextBoolean() ? 123456 : SIX_DIGITS[random.nextInt(SIX_DIGITS.length)];
            case 'l': return random.nextInt(random.nextBoolean() ? 4 : 17);
            case 'p': return random.nextInt(4) == 0 ? 31 : random.nextInt(3) == 0 ? random.nextInt(5)
                    : 16 + random.nextInt(8);
            case 'g': return 16 + random.nextInt(8);
            case 'd': return random.nextInt(spread);
            case 'e': return random.nextInt(3) == 0 ? 20000 : random.nextInt(spread + spread / 2);
            case 'k': return random.nextInt(8);
            case 'r': return random.nextInt(10);
            case 'n': return random.nextInt(random.nextBoolean() ? 6 : 82);
            case 'i': return random.nextInt(4) == 0 ? random.nextInt(26) - 1 : random.nextInt(6);
            default: return random.nextInt();
        }
    }

    private static int drawMethod(Random random) {
        int sum = 0;
        for (int often : OFTEN) {
            sum += often;
        }
        int left = random.nextInt(sum);
        int method = 0;
        while (left >= OFTEN[method]) {
            left -= OFTEN[method];
            method++;
        }
        return method;
    }

    private static String told(int method, int[] a) {
        StringBuilder text = new StringBuilder(NAMES[method]).append('(');
        for (int i = 0; i < SHAPES[method].length(); i++) {
            text.append(i == 0 ? "" : ", ").append(a[i]);
        }
        return text.append(')').toString();
    }

    public static void main(String[] args) {
        Check check = new Check();
        for (int run = 1; run <= RUNS; run++) {
            Random random = new Random(run);
            int spread = run % 4 == 0 ? 10001 : 12;
            // Most runs go deep; some are mostly refused.
            int rareness = run % 5 == 0 ? 6 : 120;
            MeasureRows x = new MeasureRows();
            Model model = new Model();
            for (int call = 1; call <= CALLS; call++) {
                int method = drawMethod(random);
                int[] a = new int[7];
                for (int i = 0; i < SHAPES[method].length(); i++) {
                    a[i] = draw(random, SHAPES[method].charAt(i), spread, rareness);
                }
                check.text("run " + run + ", call " + call + ": " + told(method, a),
                        ask(x, method, a), model.tell(method, a));
            }
        }
        check.finish();
    }
}
