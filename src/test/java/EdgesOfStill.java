/** One part, never touched or set at best: a week, terms 2, promises 9 to 13. */
final class EdgesOfStill {
    private final Edges edges;

    EdgesOfStill(Edges edges) {
        this.edges = edges;
    }

    void run() {
        week();
        never();
        best();
        middle();
        shifts();
        once();
    }

    private void due(String what, long got, long want) {
        edges.due(what, got, want);
    }

    // ---- a week

    private void week() {
        edges.told(Edges.TERMS, "A WEEK is a ROW of bytes on a SHELF: SITTERS by shifts (21 at most count;", () -> {
            SetAgain x = Made.with(10, 8, 40, 8, 25, 6, 60, 12);
            Made.mendAll(x, 8, 1);
            x.mend(0, 10, 1);
            x.mend(0, 7, 4);
            int[] long60 = new int[60], just21 = new int[21];
            for (int i = 0; i < 60; i++) long60[i] = i < 21 ? i % 3 : 3;
            System.arraycopy(long60, 0, just21, 0, 21);
            Made.fill(x, 0, just21);
            Made.fill(x, 1, long60);
            same("never", x.never(0, 0, 30), x.never(1, 0, 30));
            for (int what = 0; what < 4; what++) same("best " + what, x.best(0, 0, what), x.best(1, 0, what));
            same("middle", x.middle(0, 0), x.middle(1, 0));
            for (int k = -1; k < 22; k++) same("shifts " + k, x.shifts(0, 0, k), x.shifts(1, 0, k));
            for (int what = 0; what < 3; what++) same("once " + what, x.once(0, 0, what), x.once(1, 0, what));
            for (int what = 0; what < 3; what++) same("week " + what, x.week(0, what), x.week(1, what));
            for (int k = 20; k < 23; k++) same("stands " + k, x.stands(0, 0, k), x.stands(1, 0, k));
            for (int s = 0; s < 4; s++) same("pays " + s, x.pays(0, s, 1), x.pays(1, s, 1));
            for (int what = 0; what < 2; what++) same("memories " + what, x.memories(0, 3, what), x.memories(1, 3, what));
            same("marked", x.marked(0), x.marked(1));
            for (int s = -1; s < 4; s++) same("chairs " + s, x.chairs(0, 3, s), x.chairs(1, 3, s));
            for (int s = 0; s < 4; s++) same("wilful " + s, x.wilful(0, s, 5), x.wilful(1, s, 5));
            for (int what = 0; what < 2; what++) same("drawn " + what, x.drawn(0, 3, 20, what), x.drawn(1, 3, 20, what));
            due("the 22nd shift of shifts", x.shifts(1, 0, 21), -2);
            due("behind 22 shifts", x.stands(1, 0, 22), -1);
            due("who comes in the 22nd shift does not sit", x.chairs(1, 3, 3), -2);
            due("nor does he cost more by it", x.wilful(1, 3, 5), 0);
        });
        edges.told(Edges.TERMS, "one that is none: nobody sits, nothing is lost, it slips).", () -> {
            SetAgain x = Made.with(10, 8, 40, 8);
            Made.mendAll(x, 8, 3);
            for (int none : new int[] {-1, 2, 7, 8, 127, -128}) {
                Made.fill(x, 0, none, none);
                due("nobody sits by " + none, x.best(0, 0, 0), -2);
                due("nothing is lost by " + none, x.never(0, 0, 60), 0);
                due("no turns by " + none, x.week(0, 2), 0);
                edges.each("it slips by " + none + ", behind", 0, k -> x.stands(0, 1, k), 30, 27, 24);
                due("no place behind them by " + none, x.stands(0, 1, 3), -1);
                due("they are shifts by " + none, x.shifts(0, 0, 2), -2);
            }
            Made.fill(x, 0, 1, 2);
            due("one who came sits", x.best(0, 0, 0), 40);
            x.sitter(20, 9);
            due("and one who came since", x.best(0, 0, 0), 20);
        });
    }

    private void same(String what, int of21, int of60) {
        due(what + " of 60 bytes as of 21:", of60, of21);
    }

    // ---- never touched

    private void never() {
        edges.told(Edges.TERMS, "LOSS of a SITTER by a PART at a setting.", () -> {
            SetAgain x = Made.with(20, 6);
            x.mend(0, 1, 30);
            edges.each("at 25, part", 0, p -> x.loss(0, p, 25), 30, 30, 30);
            edges.each("at 20, part", 0, p -> x.loss(0, p, 20), 0, 60, 0);
        });
        edges.told(Edges.TERMS, "NEVER touched, one PART at setting v all through a WEEK (SLIPS left out): all LOSSES;", () -> {
            SetAgain x = Made.with(10, 8, 20, 6);
            Made.fill(x, 0, 0, 1, -1, 0);
            due("at 15", x.never(0, 0, 15), 40 + 30 + 40);
            x.mend(0, 8, 3);
            x.set(0, 5);
            due("at 15, though it slips, wherever it stands", x.never(0, 0, 15), 40 + 30 + 40);
            due("at 0", x.never(0, 0, 0), 80 + 120 + 80);
            due("at 60", x.never(0, 0, 60), 400 + 240 + 400);
            Made.fill(x, 0);
            due("of no shifts", x.never(0, 0, 15), 0);
        });
        edges.told(9, "NEVER touched at a setting: all LOSSES. BAD, -11, -12 (no ROW of bytes).", () -> {
            edges.refused((x, shelf) -> x.never(shelf, 0, 0));
            SetAgain x = Made.with(20, 6);
            Made.fill(x, 5, 0, 0);
            due("part -1", x.never(5, -1, 0), -1);
            due("part 2", x.never(5, 2, 0), 240);
            due("part 3", x.never(5, 3, 0), -1);
            due("setting -1", x.never(5, 0, -1), -1);
            due("setting 60", x.never(5, 0, 60), 480);
            due("setting 61", x.never(5, 0, 61), -1);
            due("bad ahead of -11", x.never(0, 0, 61), -1);
            due("bad ahead of -11", x.never(0, 3, 0), -1);
            x.row(0, 2, 5);
            due("bad ahead of -12", x.never(0, 0, -1), -1);
            due("bad ahead of -12", x.never(0, -1, 0), -1);
        });
    }

    private void best() {
        edges.told(Edges.TERMS, "BEST: the setting by which they are least (of like ones the least), they;", () -> {
            SetAgain x = Made.with(10, 8, 20, 8, 60, 1, 0, 1);
            Made.fill(x, 0, 0, 1);
            due("from 10 to 20 all are alike", x.best(0, 0, 0), 10);
            due("all", x.best(0, 0, 1), 80);
            Made.fill(x, 0, 0, 1, 1);
            due("two of three", x.best(0, 0, 0), 20);
            Made.fill(x, 0, 2);
            due("60", x.best(0, 0, 0), 60);
            due("nothing", x.best(0, 0, 1), 0);
            Made.fill(x, 0, 3);
            due("0", x.best(0, 0, 0), 0);
            x.mend(0, 3, 0);
            Made.fill(x, 0, 0);
            due("from 10 up all are alike", x.best(0, 0, 0), 10);
            x.mend(0, 4, 0);
            due("all are alike", x.best(0, 0, 0), 0);
            x.mend(0, 8, 3);
            due("slips are left out", x.best(0, 0, 1), 0);
        });
        edges.told(Edges.TERMS, "LEAST WORST: the setting by which the greatest LOSS of any that sits is least (likewise), it;", () -> {
            SetAgain x = Made.with(10, 8, 20, 8, 60, 12, 21, 8);
            Made.fill(x, 0, 0, 1, 1, 1);
            due("however often one sits", x.best(0, 0, 2), 15);
            due("that loss", x.best(0, 0, 3), 40);
            Made.fill(x, 0, 0, 3);
            due("15 and 16 are alike", x.best(0, 0, 2), 15);
            due("that loss", x.best(0, 0, 3), 48);
            Made.fill(x, 0, 2);
            due("60", x.best(0, 0, 2), 60);
            due("nothing", x.best(0, 0, 3), 0);
            x.mend(2, 4, 0);
            due("all are alike", x.best(0, 0, 2), 0);
        });
        edges.told(10, "BEST: the setting (what 0), all LOSSES (1); LEAST WORST: the setting (2), that LOSS (3). BAD, -11, -12; NOT: nobody sits.", () -> {
            for (int what = 0; what < 4; what++) {
                int told = what;
                edges.refused((x, shelf) -> x.best(shelf, 0, told));
            }
            SetAgain x = Made.with(10, 8, 30, 4);
            Made.fill(x, 5, 0, 1);
            edges.each("what", -1, what -> x.best(5, 2, what), -1, 10, 80, 16, 56, -1);
            due("part -1", x.best(5, -1, 0), -1);
            due("part 3", x.best(5, 3, 0), -1);
            due("bad ahead of -11", x.best(0, 0, 4), -1);
            due("bad ahead of -11", x.best(0, 3, 0), -1);
            Made.fill(x, 5);
            edges.each("of no shifts", -1, what -> x.best(5, 2, what), -1, -2, -2, -2, -2, -1);
            Made.fill(x, 5, -1, 2);
            edges.each("nobody sits", -1, what -> x.best(5, 2, what), -1, -2, -2, -2, -2, -1);
            due("bad ahead of not", x.best(5, 3, 0), -1);
        });
    }

    // ---- the middle one

    /** Wants, hours, up, down by fours; each sits once. */
    private static SetAgain heavy(int... fours) {
        SetAgain x = new SetAgain();
        x.row(0, 0, fours.length / 4);
        for (int i = 0; i < fours.length / 4; i++) {
            x.sitter(fours[4 * i], fours[4 * i + 1]);
            x.mend(i, 3, fours[4 * i + 2]);
            x.mend(i, 4, fours[4 * i + 3]);
            x.put(0, i, i);
        }
        return x;
    }

    private void middle() {
        edges.told(Edges.TERMS, "MIDDLE: of all that sit, by WANTS in order, each as heavy as HOURS times UP and DOWN together, summed from below: the WANT at which half or more of all weight is come to", () -> {
            due("half", heavy(10, 4, 1, 0, 20, 4, 0, 1).middle(0, 0), 10);
            due("3 of 7 is not half", heavy(10, 3, 1, 0, 20, 4, 0, 1).middle(0, 0), 20);
            due("4 of 7 is more", heavy(10, 4, 1, 0, 20, 3, 0, 1).middle(0, 0), 10);
            due("in order, though they came otherwise", heavy(30, 2, 1, 1, 10, 2, 1, 1, 20, 2, 1, 1).middle(0, 0), 20);
            due("up and down together", heavy(10, 2, 2, 3, 20, 2, 3, 3).middle(0, 0), 20);
            due("up and down together", heavy(10, 2, 3, 3, 20, 2, 3, 2).middle(0, 0), 10);
            due("hours", heavy(10, 5, 1, 1, 20, 6, 1, 1).middle(0, 0), 20);
            due("one of no weight below", heavy(5, 12, 0, 0, 10, 1, 1, 0).middle(0, 0), 10);
            due("two that want the same", heavy(10, 2, 1, 1, 20, 3, 1, 1, 10, 2, 1, 1).middle(0, 0), 10);
            due("0", heavy(0, 12, 9, 9, 60, 12, 9, 9).middle(0, 0), 0);
            due("60", heavy(0, 11, 9, 9, 60, 12, 9, 9).middle(0, 0), 60);
            SetAgain x = Made.with(10, 2, 20, 2, 0, 12);
            Made.fill(x, 0, 0, 1, 1);
            due("each shift that is sat; who does not sit weighs nothing", x.middle(0, 0), 20);
            x.mend(0, 5, 3);
            due("6 and twice 4", x.middle(0, 0), 20);
            Made.fill(x, 0, 2);
            due("0 alone", x.middle(0, 0), 0);
            Made.fill(x, 0, 1);
            due("20 alone, behind it", x.middle(0, 0), 20);
            x.mend(2, 0, 60);
            Made.fill(x, 0, 2);
            due("60 alone", x.middle(0, 0), 60);
        });
        edges.told(Edges.TERMS, "(of no weight: the least WANT);", () -> {
            due("of two", heavy(30, 8, 0, 0, 20, 8, 0, 0).middle(0, 0), 20);
            due("of one", heavy(60, 8, 0, 0).middle(0, 0), 60);
            SetAgain x = heavy(30, 8, 0, 0, 20, 8, 0, 0, 5, 8, 0, 0);
            Made.fill(x, 0, 0, 1);
            due("of those who sit", x.middle(0, 0), 20);
            Made.fill(x, 0, 0);
            due("of him who sits", x.middle(0, 0), 30);
        });
        edges.told(Edges.TERMS, "NOT: nobody sits.", () -> {
            SetAgain x = Made.with(10, 8);
            Made.fill(x, 0, -1, 1);
            due("best", x.best(0, 0, 0), -2);
            due("least worst", x.best(0, 0, 2), -2);
            due("middle", x.middle(0, 0), -2);
            Made.fill(x, 0, 0);
            due("one sits", x.middle(0, 0), 10);
        });
        edges.told(11, "MIDDLE. BAD, -11, -12; NOT.", () -> {
            edges.refused((x, shelf) -> x.middle(shelf, 0));
            SetAgain x = Made.with(10, 8);
            x.mend(0, 2, 13);
            Made.fill(x, 5, 0);
            edges.each("part", -1, p -> x.middle(5, p), -1, 10, 10, 13, -1);
            due("bad ahead of -11", x.middle(0, 3), -1);
            Made.fill(x, 5);
            due("of no shifts", x.middle(5, 0), -2);
            due("bad ahead of not", x.middle(5, 3), -1);
        });
    }

    // ---- set at best

    private void shifts() {
        edges.told(Edges.TERMS, "SHIFT BY SHIFT: one PART is set ahead of each shift to any setting, from where it STANDS: turns by PRICE, then the LOSS, then it SLIPS: the least of all that: it;", () -> {
            SetAgain x = Made.with(10, 8, 40, 1);
            Made.fill(x, 0, 0);
            due("20 turns", x.shifts(0, 0, -1), 20);
            x.mend(0, 9, 7);
            due("20 turns by 7", x.shifts(0, 0, -1), 140);
            x.mend(0, 9, 9);
            due("a turn is dearer than what is lost by it", x.shifts(0, 0, -1), 160);
            x.set(0, 12);
            due("from where it stands", x.shifts(0, 0, -1), 16);
            x.mend(0, 9, 0);
            Made.fill(x, 0, 0, 1, 0, 1);
            due("turns cost nothing", x.shifts(0, 0, -1), 0);
            x.mend(0, 8, 2);
            x.mend(0, 9, 1);
            Made.fill(x, 0, 0, 0, 0);
            due("2 turns, then twice 2, as it slips behind the shift", x.shifts(0, 0, -1), 6);
            x.set(0, 0);
            Made.fill(x, 0, -1, -1);
            due("0 at least, so nothing is turned", x.shifts(0, 0, -1), 0);
            x.mend(0, 0, 0);
            x.set(0, 1);
            Made.fill(x, 0, 0);
            due("from 1 to 0", x.shifts(0, 0, -1), 1);
            x.mend(0, 0, 1);
            x.set(0, 0);
            due("from 0 to 1", x.shifts(0, 0, -1), 1);
            x.mend(0, 0, 59);
            x.set(0, 60);
            due("from 60 to 59", x.shifts(0, 0, -1), 1);
            x.mend(0, 0, 60);
            x.set(0, 59);
            due("from 59 to 60", x.shifts(0, 0, -1), 1);
            due("another part, from 30 to 10", x.shifts(0, 1, -1), 20);
        });
        edges.told(Edges.TERMS, "the setting of the k-th shift (of like ones the first by shifts, the least settings).", () -> {
            SetAgain x = Made.with(10, 1, 40, 8);
            Made.fill(x, 0, 0);
            due("from 10 to 30 all are alike", x.shifts(0, 0, 0), 10);
            Made.fill(x, 0, -1, 0);
            edges.each("the least first", -1, k -> x.shifts(0, 0, k), 20, 10, 10);
            Made.fill(x, 0, 0, -1, -1);
            edges.each("where it stands then", -1, k -> x.shifts(0, 0, k), 20, 10, 10, 10);
            x.mend(0, 8, 2);
            Made.fill(x, 0, -1, 1);
            edges.each("from 30 to 42 all are alike", -1, k -> x.shifts(0, 0, k), 12, 30, 40);
            Made.mendAll(x, 9, 0);
            Made.fill(x, 0, 1, -1, 1, -1);
            edges.each("turns cost nothing", -1, k -> x.shifts(0, 0, k), 0, 40, 0, 40, 0, -2);
            x.mend(1, 3, 0);
            edges.each("above is as good", -1, k -> x.shifts(0, 0, k), 0, 40, 0, 40, 0, -2);
            x.mend(1, 4, 0);
            edges.each("all is as good", -1, k -> x.shifts(0, 0, k), 0, 0, 0, 0, 0, -2);
        });
        edges.told(12, "SHIFT BY SHIFT: the least (k -1), the setting of the k-th shift. BAD, -11, -12; NOT: there are not as many.", () -> {
            edges.refused((x, shelf) -> x.shifts(shelf, 0, -1));
            edges.refused((x, shelf) -> x.shifts(shelf, 0, 0));
            edges.refused((x, shelf) -> x.shifts(shelf, 0, 21));
            edges.refused((x, shelf) -> x.shifts(shelf, 0, Integer.MAX_VALUE));
            SetAgain x = Made.with(10, 8, 60, 8);
            Made.fill(x, 5, 0, 1, 0);
            edges.each("k", -3, k -> x.shifts(5, 2, k), -1, -1, 20 + 50 + 50, 10, 60, 10, -2, -2);
            due("far behind", x.shifts(5, 2, Integer.MAX_VALUE), -2);
            due("far ahead", x.shifts(5, 2, Integer.MIN_VALUE), -1);
            due("part -1", x.shifts(5, -1, 0), -1);
            due("part 3", x.shifts(5, 3, 0), -1);
            due("bad ahead of -11", x.shifts(0, 0, -2), -1);
            due("bad ahead of -11", x.shifts(0, 3, 0), -1);
            due("bad ahead of not", x.shifts(5, 3, 3), -1);
            Made.fill(x, 5);
            edges.each("of no shifts", -2, k -> x.shifts(5, 2, k), -1, 0, -2, -2);
        });
    }

    private void once() {
        edges.told(Edges.TERMS, "ONE TURNING: the same, if it is set ahead of just one shift (or none; SLIPS go on): the least;", () -> {
            SetAgain x = Made.with(10, 8, 50, 8);
            Made.fill(x, 0, 0, 1);
            due("20 off for 8 hours, then 20 turns to 50", x.once(0, 0, 0), 160 + 20);
            due("shift by shift", x.shifts(0, 0, -1), 60);
            Made.fill(x, 0, 0);
            due("20 turns", x.once(0, 0, 0), 20);
            x.mend(0, 9, 9);
            due("none: 20 off for 8 hours", x.once(0, 0, 0), 160);
            x.mend(0, 8, 3);
            Made.fill(x, 0, -1, -1, -1, -1, -1, -1, 0);
            due("none, as it slips: 2 off", x.once(0, 0, 0), 16);
            x.mend(0, 9, 1);
            due("2 turns", x.once(0, 0, 0), 2);
        });
        edges.told(Edges.TERMS, "ahead of which (of like ones none, then the first; NOT: of none), to what (the least).", () -> {
            SetAgain x = Made.with(10, 1, 50, 8);
            Made.fill(x, 0, 0);
            edges.each("a turn costs what it spares:", 0, what -> x.once(0, 0, what), 20, -2, -2);
            Made.fill(x, 0, -1, -1, 0, 0);
            edges.each("ahead of 0, 1, 2 alike:", 0, what -> x.once(0, 0, what), 20, 0, 10);
            x.mend(0, 3, 0);
            x.set(0, 0);
            edges.each("more than 10 is dearer:", 0, what -> x.once(0, 0, what), 10, 0, 10);
            x.mend(0, 9, 0);
            edges.each("more than 10 costs the same:", 0, what -> x.once(0, 0, what), 0, 0, 10);
            x.set(0, 10);
            edges.each("of like ones none:", 0, what -> x.once(0, 0, what), 0, -2, -2);
            x.set(0, 0);
            x.mend(0, 3, 1);
            x.mend(0, 4, 9);
            x.mend(0, 9, 1);
            Made.fill(x, 0, -1, 0, -1, 0);
            x.mend(0, 8, 3);
            edges.each("16 turns, then 6 above, then none:", 0, what -> x.once(0, 0, what), 16 + 6, 1, 16);
        });
        edges.told(13, "ONE TURNING: the least (what 0), ahead of which (1; NOT), to what (2; NOT). BAD, -11, -12.", () -> {
            for (int what = 0; what < 3; what++) {
                int told = what;
                edges.refused((x, shelf) -> x.once(shelf, 0, told));
            }
            SetAgain x = Made.with(10, 8, 60, 8, 0, 8);
            Made.fill(x, 5, -1, 0);
            edges.each("what", -1, what -> x.once(5, 2, what), -1, 20, 0, 10, -1);
            due("part -1", x.once(5, -1, 0), -1);
            due("part 3", x.once(5, 3, 0), -1);
            due("bad ahead of -11", x.once(0, 0, 3), -1);
            due("bad ahead of -11", x.once(0, 3, 0), -1);
            Made.fill(x, 5, 1);
            edges.each("to 60:", 0, what -> x.once(5, 2, what), 30, 0, 60);
            Made.fill(x, 5, 2);
            edges.each("to 0:", 0, what -> x.once(5, 2, what), 30, 0, 0);
            Made.fill(x, 5);
            edges.each("of no shifts:", -1, what -> x.once(5, 2, what), -1, 0, -2, -2, -1);
            int[] late = new int[22];
            java.util.Arrays.fill(late, -1);
            late[20] = 0;
            Made.fill(x, 5, late);
            x.mend(2, 8, 2);
            edges.each("the last of 21:", 0, what -> x.once(5, 2, what), 10, 20, 10);
        });
    }
}
