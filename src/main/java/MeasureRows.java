/**
 * Measures on goods: which rows are of a code, land and day, which of them apply, what was known
 * when, and what changed between two days. The document's promises say what each call answers.
 */
public final class MeasureRows {
    public static final int NONE = -1;
    public static final int OPEN = 20000;

    private static final int LAND_COUNT = 16;
    private static final int LAND_BITS = 0xFFFF;
    private static final int FIRST_GROUP = 16;
    private static final int GROUP_COUNT = 8;
    private static final int ALL = 31;

    private static final int LATEST_DAY = 10000;

    private static final int PAPER_COUNT = 16;
    private static final int PAPER_BITS = 0xFFFF;

    private static final int KIND_COUNT = 8;
    private static final int BEATING_KINDS = 4;
    private static final int RANK_COUNT = 10;

    private static final int DEEPEST_LEVEL = 3;

    private static final int MOST_ROWS = 80;
    private static final int MOST_MARKS = 4;
    private static final int MOST_TOLD = 8;

    private final Groups groups;
    private final Row[] rows;
    private int rowCount;
    private int now;
    private int paperBits;
    private final int[] listed;
    private int listedCount;
    private final int[] candidates;
    private final int[] greatestWeight;

    public MeasureRows() {
        groups = new Groups();
        rows = new Row[MOST_ROWS];
        rowCount = 0;
        now = 0;
        paperBits = 0;
        listed = new int[MOST_ROWS];
        listedCount = 0;
        candidates = new int[MOST_ROWS];
        greatestWeight = new int[KIND_COUNT];
    }

    public boolean member(int group, int land) {
        if (!isGroup(group) || !(isLand(land) || isGroup(land))) {
            return false;
        }
        return groups.join(group, land);
    }

    public boolean ring(int group, int other) throws IndexOutOfBoundsException {
        if (!isGroup(group) || !isGroup(other)) {
            throw new IndexOutOfBoundsException("no such group");
        }
        return groups.wouldRing(group, other);
    }

    public boolean has(int group, int land) throws IndexOutOfBoundsException {
        if (!(isGroup(group) || group == ALL) || !isLand(land)) {
            throw new IndexOutOfBoundsException("no such group or land");
        }
        return groups.reaches(group, land);
    }

    public int row(int code, int land, int from, int to, int kind, int rank, int known)
            throws IllegalArgumentException, IllegalStateException {
        if (levelOf(code) == 0 || !isPlace(land)) {
            throw new IllegalArgumentException("no such code or land");
        }
        if (!isDay(from) || !isLastDay(to) || !isDay(known) || to < from) {
            throw new IllegalArgumentException("no such days");
        }
        if (kind < 0 || kind >= KIND_COUNT || rank < 0 || rank >= RANK_COUNT) {
            throw new IllegalArgumentException("no such kind or rank");
        }
        if (rowCount >= MOST_ROWS) {
            throw new IllegalStateException("no room for another row");
        }
        int clash = leastClash(code, land, from, to, kind, rank);
        if (clash != NONE) {
            return -1 - clash;
        }
        rows[rowCount] = new Row(code, land, from, to, kind, rank, known);
        rowCount++;
        now = Math.max(now, known);
        return rowCount;
    }

    public boolean exclude(int row, int land) {
        Row found = find(row);
        return found != null && isLand(land) && found.leaveOut(land);
    }

    public boolean condition(int row, int paper) {
        Row found = find(row);
        return found != null && paper >= 0 && paper < PAPER_COUNT && found.want(paper);
    }

    public int end(int row, int day, int known)
            throws IndexOutOfBoundsException, IllegalArgumentException, IllegalStateException {
        Row found = find(row);
        if (found == null) {
            throw new IndexOutOfBoundsException("no such row");
        }
        if (!isLastDay(day) || !isDay(known)) {
            throw new IllegalArgumentException("no such days");
        }
        if (found.told >= MOST_TOLD) {
            throw new IllegalStateException("no room for another last day");
        }
        if (day < found.first) {
            return 0;
        }
        found.tell(day, known);
        now = Math.max(now, known);
        return found.told;
    }

    public void papers(int bits) {
        paperBits = bits & PAPER_BITS;
    }

    public int apply(int code, int land, int day, int known) throws IllegalArgumentException {
        if (levelOf(code) != DEEPEST_LEVEL || !isLand(land) || !isDay(day) || !isDay(known)) {
            throw new IllegalArgumentException("no such code, land or day");
        }
        int candidateCount = gather(candidates, code, land, day, known);
        candidateCount = keepWithPapers(candidateCount);
        // An answer of 0 changes nothing, so the earlier list stays.
        if (candidateCount == 0) {
            return 0;
        }
        weighKinds(candidateCount);
        listUnbeaten(candidateCount);
        return listedCount;
    }

    public int at(int i) {
        return i >= 0 && i < listedCount ? listed[i] : NONE;
    }

    public int scan(int code, int land, int day) throws IllegalArgumentException {
        if (levelOf(code) == 0 || !isLand(land) || !isDay(day)) {
            throw new IllegalArgumentException("no such code, land or day");
        }
        int found = gather(listed, code, land, day, now);
        // An answer of 0 changes nothing, so the earlier list stays (nothing was written over it).
        if (found > 0) {
            listedCount = found;
        }
        return found;
    }

    public int change(int a, int b, int i) throws IllegalArgumentException {
        if (!isDay(a) || !isDay(b)) {
            throw new IllegalArgumentException("no such days");
        }
        int passed = 0;
        for (int number = 1; number <= rowCount; number++) {
            Row row = find(number);
            if (row != null && row.lastsOn(a, now) != row.lastsOn(b, now)) {
                if (passed == i) {
                    return number;
                }
                passed++;
            }
        }
        return NONE;
    }

    public int look(int row, int what) throws IndexOutOfBoundsException {
        Row found = find(row);
        if (found == null) {
            throw new IndexOutOfBoundsException("no such row");
        }
        switch (what) {
            case 0: return found.code;
            case 1: return found.place;
            case 2: return found.first;
            case 3: return found.lastDayAsOf(now);
            case 4: return found.kind;
            case 5: return found.rank;
            case 6: return found.known;
            case 7: return found.told;
            case 8: return Integer.bitCount(found.excluded);
            case 9: return Integer.bitCount(found.wanted);
            default: throw new IndexOutOfBoundsException("nothing such to look at");
        }
    }

    public int count(int what) {
        if (isGroup(what)) {
            return groups.landsIn(what);
        }
        switch (what) {
            case 0: return rowCount;
            case 1: return now;
            case 2: return listedCount;
            case 3: return paperBits;
            default: return NONE;
        }
    }

    private Row find(int number) {
        return number >= 1 && number <= rowCount ? rows[number - 1] : null;
    }

    private int leastClash(int code, int place, int from, int to, int kind, int rank) {
        for (int number = 1; number <= rowCount; number++) {
            Row row = find(number);
            if (row != null && row.isAlike(code, place, kind, rank) && row.meets(from, to, now)) {
                return number;
            }
        }
        return NONE;
    }

    /** Writes the numbers of the rows that are of these into a target of MOST_ROWS places. */
    private int gather(int[] target, int code, int land, int day, int asOf) {
        int found = 0;
        for (int number = 1; number <= rowCount; number++) {
            Row row = find(number);
            if (row != null && row.known <= asOf && isUnder(code, row.code)
                    && isOfLand(row, land) && row.lastsOn(day, asOf)) {
                target[found] = number;
                found++;
            }
        }
        return found;
    }

    private boolean isOfLand(Row row, int land) {
        return (row.place == land || groups.reaches(row.place, land)) && !row.leavesOut(land);
    }

    private int keepWithPapers(int candidateCount) {
        int kept = 0;
        for (int i = 0; i < candidateCount; i++) {
            Row row = find(candidates[i]);
            if (row != null && row.isContentWith(paperBits)) {
                candidates[kept] = candidates[i];
                kept++;
            }
        }
        return kept;
    }

    private void weighKinds(int candidateCount) {
        for (int kind = 0; kind < KIND_COUNT; kind++) {
            greatestWeight[kind] = 0;
        }
        for (int i = 0; i < candidateCount; i++) {
            Row row = find(candidates[i]);
            if (row != null) {
                greatestWeight[row.kind] = Math.max(greatestWeight[row.kind], row.weight());
            }
        }
    }

    private void listUnbeaten(int candidateCount) {
        listedCount = 0;
        for (int kind = 0; kind < KIND_COUNT; kind++) {
            for (int i = 0; i < candidateCount; i++) {
                Row row = find(candidates[i]);
                if (row != null && row.kind == kind && !isBeaten(row)) {
                    listed[listedCount] = candidates[i];
                    listedCount++;
                }
            }
        }
    }

    private boolean isBeaten(Row row) {
        return row.kind < BEATING_KINDS && row.weight() < greatestWeight[row.kind];
    }

    private static boolean isLand(int land) {
        return land >= 0 && land < LAND_COUNT;
    }

    private static boolean isGroup(int group) {
        return group >= FIRST_GROUP && group < FIRST_GROUP + GROUP_COUNT;
    }

    private static boolean isPlace(int place) {
        return isLand(place) || isGroup(place) || place == ALL;
    }

    private static boolean isDay(int day) {
        return day >= 0 && day <= LATEST_DAY;
    }

    private static boolean isLastDay(int day) {
        return isDay(day) || day == OPEN;
    }

    /** 1, 2 or 3 for a code of 2, 4 or 6 digits; 0 for what is no code. */
    private static int levelOf(int code) {
        if (code >= 10 && code <= 99) {
            return 1;
        }
        if (code >= 1000 && code <= 9999) {
            return 2;
        }
        return code >= 100000 && code <= 999999 ? DEEPEST_LEVEL : 0;
    }

    private static boolean isUnder(int code, int upper) {
        return code == upper || code / 100 == upper || code / 10000 == upper;
    }

    private static boolean hasBit(int bits, int place) {
        return ((bits >>> place) & 1) != 0;
    }

    /** The groups' members, and all that is in each group, kept as bits: 0 .. 15 lands, 16 .. 23 groups. */
    private static final class Groups {
        private final int[] members;
        // Kept whole at every join, so that no question has to walk from group to group.
        private final int[] inside;

        Groups() {
            members = new int[GROUP_COUNT];
            inside = new int[GROUP_COUNT];
        }

        boolean join(int group, int newcomer) {
            if (!isGroup(group) || hasBit(members[group - FIRST_GROUP], newcomer)
                    || wouldRing(group, newcomer)) {
                return false;
            }
            members[group - FIRST_GROUP] |= 1 << newcomer;
            int brought = (1 << newcomer) | insideOf(newcomer);
            for (int g = 0; g < GROUP_COUNT; g++) {
                if (g + FIRST_GROUP == group || hasBit(inside[g], group)) {
                    inside[g] |= brought;
                }
            }
            return true;
        }

        boolean wouldRing(int group, int newcomer) {
            return newcomer == group || hasBit(insideOf(newcomer), group);
        }

        boolean reaches(int groupOrAll, int land) {
            return groupOrAll == ALL || hasBit(insideOf(groupOrAll), land);
        }

        int landsIn(int group) {
            return Integer.bitCount(insideOf(group) & LAND_BITS);
        }

        private int insideOf(int place) {
            return isGroup(place) ? inside[place - FIRST_GROUP] : 0;
        }
    }

    private static final class Row {
        final int code;
        final int place;
        final int first;
        final int kind;
        final int rank;
        final int known;
        int excluded;
        int wanted;
        int told;
        private final int[] lastDays;
        private final int[] knownDays;

        Row(int code, int place, int first, int last, int kind, int rank, int known) {
            this.code = code;
            this.place = place;
            this.first = first;
            this.kind = kind;
            this.rank = rank;
            this.known = known;
            excluded = 0;
            wanted = 0;
            lastDays = new int[MOST_TOLD];
            knownDays = new int[MOST_TOLD];
            lastDays[0] = last;
            knownDays[0] = known;
            told = 1;
        }

        boolean leaveOut(int land) {
            if (!mayMark(excluded, land)) {
                return false;
            }
            excluded |= 1 << land;
            return true;
        }

        boolean want(int paper) {
            if (!mayMark(wanted, paper)) {
                return false;
            }
            wanted |= 1 << paper;
            return true;
        }

        private static boolean mayMark(int marks, int mark) {
            return !hasBit(marks, mark) && Integer.bitCount(marks) < MOST_MARKS;
        }

        void tell(int lastDay, int knownDay) {
            if (told < MOST_TOLD) {
                lastDays[told] = lastDay;
                knownDays[told] = knownDay;
                told++;
            }
        }

        /** NONE if no last day was known by then. */
        int lastDayAsOf(int asOf) {
            int lastDay = NONE;
            int latest = NONE;
            for (int i = 0; i < told; i++) {
                // Not only later but as late: of one day the one told last counts.
                if (knownDays[i] <= asOf && knownDays[i] >= latest) {
                    latest = knownDays[i];
                    lastDay = lastDays[i];
                }
            }
            return lastDay;
        }

        boolean lastsOn(int day, int asOf) {
            return meets(day, day, asOf);
        }

        boolean meets(int from, int to, int asOf) {
            return first <= to && from <= lastDayAsOf(asOf);
        }

        boolean isAlike(int otherCode, int otherPlace, int otherKind, int otherRank) {
            return code == otherCode && place == otherPlace && kind == otherKind && rank == otherRank;
        }

        boolean leavesOut(int land) {
            return hasBit(excluded, land);
        }

        boolean isContentWith(int paperBits) {
            return wanted == 0 || (wanted & paperBits) != 0;
        }

        /** Of two rows of a kind the heavier beats: any longer code outweighs every rank. */
        int weight() {
            return levelOf(code) * RANK_COUNT + rank;
        }
    }
}
