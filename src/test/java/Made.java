/** Objects in states that several tests begin with. */
final class Made {
    private Made() {
    }

    /** Row 1 of code 10, all lands, kind 0 and rank 0. */
    static MeasureRows oneRow(int from, int to, int known) {
        MeasureRows x = new MeasureRows();
        x.row(10, Edges.ALL, from, to, 0, 0, known);
        return x;
    }

    /** Rows 1 .. n of code 10 and land 0, row i of day i alone, known on day 0. */
    static MeasureRows rowsOfOneDay(int n) {
        MeasureRows x = new MeasureRows();
        for (int i = 1; i <= n; i++) {
            x.row(10, 0, i, i, 0, 0, 0);
        }
        return x;
    }

    /** 80 rows of code 10, all of which apply to land 5: their kinds go round from 7 down to 4. */
    static MeasureRows fullOfLand5() {
        MeasureRows x = new MeasureRows();
        for (int i = 0; i < 80; i++) {
            x.row(10, i < 40 ? Edges.ALL : 5, 0, Edges.OPEN, 7 - i % 4, i / 4 % 10, 0);
        }
        return x;
    }

    /** Row 1 of days 5 .. 9, known on day 0, of which 8 last days were told: day 10 + n as of day n. */
    static MeasureRows eightTold() {
        MeasureRows x = oneRow(5, 9, 0);
        for (int n = 2; n <= 8; n++) {
            x.end(1, 10 + n, n);
        }
        return x;
    }

    /** Something of each: groups in groups, rows of each level, marks, last days, papers and a list. */
    static MeasureRows lively() {
        MeasureRows x = new MeasureRows();
        x.member(16, 3);
        x.member(17, 16);
        x.row(12, Edges.ALL, 5, Edges.OPEN, 0, 1, 5);
        x.row(1234, 17, 10, 30, 4, 0, 8);
        x.row(123456, 3, 12, 20, 4, 0, 9);
        x.end(2, 20, 15);
        x.exclude(1, 0);
        x.condition(2, 2);
        x.papers(4);
        x.scan(123456, 3, 15);
        return x;
    }
}
