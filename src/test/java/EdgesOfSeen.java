/** Who may have sat, weeks judged, weeks drawn: terms 4, promises 21 to 23. */
final class EdgesOfSeen {
    private static final int NOBODY = 256;
    private final Edges edges;

    EdgesOfSeen(Edges edges) {
        this.edges = edges;
    }

    void run() {
        seen();
        who();
        judged();
        drawn();
    }

    private void due(String what, long got, long want) {
        edges.due(what, got, want);
    }

    // ---- who may have sat

    private void seen() {
        edges.told(Edges.TERMS, "STANDS: a ROW of bytes: how one PART stood behind shifts (-1: not seen):", () -> {
            SetAgain x = Made.with(20, 8, 40, 8);
            Made.mendAll(x, 8, 2);
            Made.fill(x, 0, 18);
            due("it slipped behind the shift", x.who(0, 0, 0), 1);
            Made.fill(x, 0, 20);
            due("as it was set it does not stand behind it", x.who(0, 0, 0), 0);
            Made.fill(x, 0, 28);
            due("it but slipped", x.who(0, 0, 0), NOBODY);
            Made.fill(x, 0, -1);
            due("not seen", x.who(0, 0, 0), 1 | 2 | NOBODY);
            for (int odd : new int[] {-2, -128, 61, 127}) {
                Made.fill(x, 0, odd);
                due("no setting: " + odd, x.who(0, 0, 0), 0);
            }
            for (int v = 0; v <= 60; v += 4) {
                x.set(2, v);
                x.mend(0, 2, v);
                x.mend(2, 8, 0);
                Made.fill(x, 0, v);
                due("at " + v, x.who(0, 2, 0), 1 | NOBODY | (v == 40 ? 2 : 0));
                for (int odd = -128 + v; odd <= 127; odd += 64) {
                    Made.fill(x, 0, odd);
                    if (odd != v) due("at " + v + " seen " + odd, x.who(0, 2, 0), 0);
                }
            }
            x.set(1, 1);
            Made.fill(x, 0, 0);
            due("0 at least", x.who(0, 1, 0), NOBODY);
            x.mend(1, 1, 60);
            x.mend(1, 8, 0);
            Made.fill(x, 0, 60);
            due("60", x.who(0, 1, 0), 2);
        });
        edges.told(Edges.TERMS, "WHO may have sat in each shift, by HABITS, from how it STANDS (nobody, too): SITTERS (bits; 256: nobody) of shift k", () -> {
            SetAgain x = Made.with(20, 8, 40, 8, 20, 1, 30, 1);
            Made.fill(x, 0, 20, 20, 40, 30);
            edges.each("shift", 0, k -> x.who(0, 0, k), 1 | 4, 1 | 4 | NOBODY, 2, 8);
            x.set(0, 20);
            due("from how it stands", x.who(0, 0, 0), 1 | 4 | NOBODY);
            Made.fill(x, 0, 20);
            x.mend(3, 6, 10);
            due("off by near it stays", x.who(0, 0, 0), 1 | 4 | 8 | NOBODY);
            x.mend(3, 6, 9);
            due("off by more it is set", x.who(0, 0, 0), 1 | 4 | NOBODY);
            SetAgain eight = Made.with(1, 8, 2, 8, 3, 8, 4, 8, 5, 8, 6, 8, 7, 8, 30, 8);
            Made.fill(eight, 0, -1, 7, -1);
            edges.each("of eight, shift", 0, k -> eight.who(0, 0, k), 255 | NOBODY, 64 | NOBODY, 255 | NOBODY);
            SetAgain none = new SetAgain();
            Made.fill(none, 0, 30, -1);
            edges.each("of none, shift", 0, k -> none.who(0, 0, k), NOBODY, NOBODY, -1);
        });
        edges.told(Edges.TERMS, "by all that was seen, later, too (0: it cannot be so; 12 shifts at most count).", () -> {
            SetAgain x = Made.with(20, 8, 40, 8);
            Made.mendAll(x, 8, 1);
            Made.fill(x, 0, -1, 38, -1, 18);
            edges.each("by what was seen later: shift", 0, k -> x.who(0, 0, k), 2, NOBODY, 1, NOBODY);
            Made.fill(x, 0, 19, 39, 5, -1);
            edges.each("it cannot be so at 2: shift", 0, k -> x.who(0, 0, k), 0, 0, 0, 0, -1);
            int[] row = new int[60];
            java.util.Arrays.fill(row, -1);
            row[12] = 5;
            row[13] = 61;
            Made.fill(x, 0, row);
            edges.each("what was seen in the 13th does not count: shift", 0, k -> x.who(0, 0, k), 259, 259, 259, 259, 259, 259, 259, 259, 259, 259, 259, 259, -1);
            x.put(0, 11, 61);
            edges.each("what was seen in the 12th does: shift", 0, k -> x.who(0, 0, k), 0, 0, 0, 0, 0, 0, 0, 0, 0, 0, 0, 0, -1);
            x.put(0, 11, 38);
            edges.each("it does: shift", 9, k -> x.who(0, 0, k), 259, 2, NOBODY, -1);
            SetAgain none = new SetAgain();
            none.mend(0, 8, 3);
            none.set(0, 2);
            none.set(1, 60);
            Made.fill(none, 0, -1, 0);
            edges.each("down to 0: shift", 0, k -> none.who(0, 0, k), NOBODY, NOBODY);
            edges.each("nobody sets it to 0: shift", 0, k -> none.who(0, 1, k), 0, 0);
            Made.fill(none, 0, -1, 60);
            edges.each("at 60: shift", 0, k -> none.who(0, 1, k), NOBODY, NOBODY);
            edges.each("from 0 it is not 60: shift", 0, k -> none.who(0, 0, k), 0, 0);
            Made.fill(none, 0, 60, -1);
            edges.each("60 and on: shift", 0, k -> none.who(0, 1, k), NOBODY, NOBODY);
            Made.fill(none, 0, 0, -1, 0);
            edges.each("0 and on: shift", 0, k -> none.who(0, 0, k), NOBODY, NOBODY, NOBODY);
        });
    }

    private void who() {
        edges.told(21, "WHO may have sat in shift k (0 .. 11), of a PART: bits. BAD (no such shift, too), -11, -12 (no ROW of bytes).", () -> {
            edges.refused((x, shelf) -> x.who(shelf, 0, 0));
            edges.refused((x, shelf) -> x.who(shelf, 0, 11));
            SetAgain x = Made.with(20, 8);
            x.mend(0, 2, 21);
            Made.fill(x, 5, 20, 20, 20);
            edges.each("k", -1, k -> x.who(5, 0, k), -1, 1, 257, 257, -1);
            edges.each("part", -1, p -> x.who(5, p, 0), -1, 1, 1, 0, -1);
            due("k 12 ahead of -11", x.who(0, 0, 12), -1);
            due("part 3 ahead of -11", x.who(0, 3, 0), -1);
            x.row(0, 3, 60);
            due("k 12 ahead of -12", x.who(0, 0, 12), -1);
            due("k -1 ahead of -12", x.who(0, 0, -1), -1);
            Made.fill(x, 5, new int[12]);
            edges.each("of 12, k", 11, k -> x.who(5, 0, k), 0, -1);
            Made.fill(x, 5, new int[60]);
            edges.each("of 60, k", 11, k -> x.who(5, 0, k), 0, -1);
            due("far behind", x.who(5, 0, Integer.MAX_VALUE), -1);
            due("far ahead", x.who(5, 0, Integer.MIN_VALUE), -1);
            Made.fill(x, 5);
            due("of no shifts", x.who(5, 0, 0), -1);
        });
    }

    // ---- judged

    private void judged() {
        edges.told(Edges.TERMS, "JUDGED: a told WEEK by what was seen (as far as both go): the first shift by which it is not so; NOT.", () -> {
            SetAgain x = Made.with(20, 8, 40, 8);
            Made.mendAll(x, 8, 3);
            Made.fill(x, 0, 0, -1, 1);
            Made.fill(x, 1, 17, 14, 37);
            due("so", x.judge(1, 0), -2);
            Made.fill(x, 1, 17, 14, 38);
            due("not so at the third", x.judge(1, 0), 2);
            Made.fill(x, 1, 16, 14, 38);
            due("not so at the first", x.judge(1, 0), 0);
            Made.fill(x, 1, -1, -1, -1);
            due("not seen", x.judge(1, 0), -2);
            Made.fill(x, 1, -1, 13, 38);
            due("not so at the second", x.judge(1, 0), 1);
            for (int odd : new int[] {-2, -128, 61, 127}) {
                Made.fill(x, 1, -1, odd);
                due("no setting: " + odd, x.judge(1, 0), 1);
            }
            Made.fill(x, 1, 17, 14, 37, 5, 5);
            due("the week ends first", x.judge(1, 0), -2);
            Made.fill(x, 1, 17, 14);
            due("what was seen ends first", x.judge(1, 0), -2);
            Made.fill(x, 1);
            due("nothing was seen", x.judge(1, 0), -2);
            Made.fill(x, 1, 17);
            Made.fill(x, 0);
            due("no shifts", x.judge(1, 0), -2);
            x.set(0, 20);
            Made.fill(x, 0, -1);
            due("from how it stands", x.judge(1, 0), -2);
        });
        edges.told(22, "JUDGED (ws: 10 times the SHELF of the WEEK and that of what was seen of a PART).", () -> {
            SetAgain x = Made.with(20, 8);
            x.mend(0, 1, 21);
            Made.fill(x, 5, 0);
            Made.fill(x, 0, 20);
            due("week 5, seen 0", x.judge(50, 0), -2);
            due("week 0, seen 5: nobody sat, and it stood at 30", x.judge(5, 0), 0);
            due("one row is both", x.judge(55, 0), 0);
            edges.each("part", -1, p -> x.judge(50, p), -1, -2, 0, -2, -1);
            int[] week = new int[60], seen = new int[60];
            java.util.Arrays.fill(seen, 20);
            seen[21] = 5;
            Made.fill(x, 1, week);
            Made.fill(x, 2, seen);
            due("the 22nd shift does not count", x.judge(12, 0), -2);
            x.put(2, 20, 5);
            due("the 21st does", x.judge(12, 0), 20);
            x.put(2, 12, 5);
            due("the 13th does", x.judge(12, 0), 12);
        });
        edges.told(22, "BAD, -11, -12 (no ROWS of bytes); NOT.", () -> {
            edges.refused((x, shelf) -> besideARow(x, shelf, 10 * shelf));
            edges.refused((x, shelf) -> besideARow(x, shelf, shelf));
            SetAgain x = new SetAgain();
            Made.fill(x, 0, -1);
            for (int ws : new int[] {-1, -10, 6, 7, 8, 9, 16, 56, 59, 60, 61, 65, 100, 1000, Integer.MAX_VALUE, Integer.MIN_VALUE}) due("ws " + ws, x.judge(ws, 0), -1);
            x.body(0);
            x.keep(1, 0);
            x.row(2, 1, 1);
            edges.each("a row, and shelf", 0, s -> x.judge(s, 0), -2, -12, -12, -11);
            edges.each("a desk, and shelf", 0, s -> x.judge(10 + s, 0), -12, -12, -12, -11);
            edges.each("shorts, and shelf", 0, s -> x.judge(20 + s, 0), -12, -12, -12, -11);
            edges.each("nothing, and shelf", 0, s -> x.judge(30 + s, 0), -11, -11, -11, -11);
            due("bad ahead of -11", x.judge(30, 3), -1);
            due("bad ahead of -11", x.judge(36, 0), -1);
            due("bad ahead of -12", x.judge(10, -1), -1);
        });
    }

    /** Judges by a shelf and by shelf 0, on which a row of bytes comes if the other one holds anything. */
    private static int besideARow(SetAgain x, int shelf, int ws) {
        if (shelf > 0 && shelf < 6) Made.fill(x, 0, -1);
        return x.judge(ws, 0);
    }

    // ---- drawn

    private void drawn() {
        edges.told(Edges.TERMS, "DRAWN: n WEEKS (1 .. 20) as told by a SEED: z = z * 1103515245 + 12345 (an int; SEED at first) ahead of each shift of a SITTER: it does not come, if (z >>> 8) % 12 is below ILL:", () -> {
            for (int seed : new int[] {0, 1, -1, 12345, Integer.MAX_VALUE, Integer.MIN_VALUE}) {
                for (int n : new int[] {1, 2, 20}) draws(seed, n);
            }
        });
        edges.told(Edges.TERMS, "all costs by HABITS, each WEEK from how they STAND now; how many shifts were empty by that.", () -> {
            SetAgain x = Made.with(20, 8, 50, 8);
            Made.fill(x, 0, 0, -1, 1, 7);
            edges.each("nobody is ill:", 0, what -> x.drawn(0, 5, 3, what), 3 * (30 + 90), 0);
            x.mend(0, 7, 12);
            edges.each("one is always ill, who was none is none by that:", 0, what -> x.drawn(0, 5, 3, what), 3 * 60, 3);
            x.mend(1, 7, 12);
            edges.each("both are:", 0, what -> x.drawn(0, 5, 3, what), 0, 6);
            x.mend(1, 7, 0);
            Made.mendAll(x, 8, 3);
            edges.each("it slips in an empty shift:", 0, what -> x.drawn(0, 5, 3, what), 3 * 3 * (50 - 24), 3);
            x.mend(1, 6, 60);
            edges.each("losses are costs:", 0, what -> x.drawn(0, 5, 1, what), 3 * 8 * (50 - 24), 1);
            due("where it stands stays", x.of(0, 11), 30);
        });
        edges.told(23, "DRAWN: costs (what 0), empty shifts (1). BAD, -11, -12 (no ROW of bytes).", () -> {
            edges.refused((x, shelf) -> x.drawn(shelf, 0, 1, 0));
            edges.refused((x, shelf) -> x.drawn(shelf, -7, 20, 1));
            SetAgain x = Made.with(20, 8);
            Made.fill(x, 5, 0);
            edges.each("n", -1, n -> x.drawn(5, 9, n, 0), -1, -1, 30, 60);
            edges.each("n", 20, n -> x.drawn(5, 9, n, 0), 600, -1);
            due("n far below", x.drawn(5, 9, Integer.MIN_VALUE, 0), -1);
            due("n far above", x.drawn(5, 9, Integer.MAX_VALUE, 0), -1);
            edges.each("what", -1, what -> x.drawn(5, 9, 2, what), -1, 60, 0, -1);
            due("bad ahead of -11", x.drawn(0, 0, 0, 0), -1);
            due("bad ahead of -11", x.drawn(0, 0, 1, 2), -1);
            Made.fill(x, 5);
            edges.each("of no shifts, what", 0, what -> x.drawn(5, 9, 20, what), 0, 0);
        });
    }

    /** Two sitters, unlike ill; where nobody is told, nothing is drawn. */
    private void draws(int seed, int n) {
        SetAgain x = Made.with(20, 8, 50, 8);
        x.mend(0, 7, 3);
        x.mend(1, 7, 8);
        int[] week = {0, 1, -1, 1, 9, 0, 1};
        Made.fill(x, 0, week);
        int z = seed, empty = 0;
        for (int i = 0; i < n; i++) {
            for (int s : week) {
                if (s != 0 && s != 1) continue;
                z = z * 1103515245 + 12345;
                if ((z >>> 8) % 12 < (s == 0 ? 3 : 8)) empty++;
            }
        }
        due("empty by seed " + seed + ", weeks " + n, x.drawn(0, seed, n, 1), empty);
        due("and again", x.drawn(0, seed, n, 1), empty);
    }
}
