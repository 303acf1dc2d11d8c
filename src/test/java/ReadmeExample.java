public final class ReadmeExample {
    public static void main(String[] args) {
        MeasureRows measures = new MeasureRows();

        // Land 3 is in group 16, and so in group 17, of which group 16 is a member.
        measures.member(16, 3);
        measures.member(17, 16);
        System.out.println("land 3 is in group 17: " + measures.has(17, 3));
        System.out.println("group 17 as a member of group 16 brings a ring: " + measures.ring(16, 17));

        // Code, land, first and last day, kind, rank, and the day on which the row becomes known.
        int general = measures.row(12, 31, 0, MeasureRows.OPEN, 0, 1, 0);
        int special = measures.row(1234, 17, 10, 30, 0, 0, 8);
        System.out.println("rows: " + general + " and " + special + ", " + measures.count(0) + " in all");
        System.out.println("one that clashes with row 2: " + measures.row(1234, 17, 30, 40, 0, 0, 9));

        // Of kind 0 the longer code beats, but not before it is known.
        tell("on day 15, as known on day 7", measures, measures.apply(123456, 3, 15, 7));
        tell("on day 15, as known on day 8", measures, measures.apply(123456, 3, 15, 8));

        // Row 2 wants paper 5, and bit 5 says that it is there.
        measures.condition(special, 5);
        tell("without paper 5", measures, measures.apply(123456, 3, 15, 8));
        measures.papers(1 << 5);
        tell("with paper 5", measures, measures.apply(123456, 3, 15, 8));

        measures.exclude(general, 4);
        tell("to land 4, which row 1 leaves out", measures, measures.apply(123456, 4, 15, 8));

        // On day 25 it becomes known that row 2 ends on day 12.
        measures.end(special, 12, 25);
        tell("on day 15, as known on day 24", measures, measures.apply(123456, 3, 15, 24));
        tell("on day 15, as known on day 25", measures, measures.apply(123456, 3, 15, 25));
        System.out.println("the last day of row 2, as known by now: " + measures.look(special, 3));
        System.out.println("the first row with one of days 11 and 15 alone: " + measures.change(11, 15, 0));

        // All rows of a code of any level, the beaten ones too, whatever papers they want.
        tell("of code 1234 and land 3 on day 11", measures, measures.scan(1234, 3, 11));

        try {
            measures.scan(123, 3, 11);
        } catch (IllegalArgumentException e) {
            System.out.println("a code of 3 digits: IllegalArgumentException");
        }
    }

    private static void tell(String what, MeasureRows measures, int found) {
        System.out.print(what + ":");
        for (int i = 0; i < found; i++) {
            System.out.print(" row " + measures.at(i));
        }
        System.out.println(found == 0 ? " none" : "");
    }
}
