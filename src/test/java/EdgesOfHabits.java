/** Weeks by habits, memories, marks, chairs, one who is wilful: terms 3, promises 14 to 20. */
final class EdgesOfHabits {
    private final Edges edges;

    EdgesOfHabits(Edges edges) {
        this.edges = edges;
    }

    void run() {
        habits();
        week();
        stands();
        pays();
        memories();
        marked();
        chairs();
        wilful();
    }

    private void due(String what, long got, long want) {
        edges.due(what, got, want);
    }

    // ---- habits

    private void habits() {
        edges.told(Edges.TERMS, "HABITS: each SITTER who comes sets each PART that is off by more than NEAR to what it wants (turns by PRICE), then loses, then all PARTS SLIP.", () -> {
            SetAgain x = Made.with(20, 2);
            Made.fill(x, 0, 0);
            x.mend(0, 6, 10);
            edges.each("off by near:", 0, what -> x.week(0, what), 0, 60, 60);
            x.mend(0, 6, 9);
            edges.each("off by more, above:", 0, what -> x.week(0, what), 30, 0, 30);
            Made.setAll(x, 10);
            edges.each("off by more, below:", 0, what -> x.week(0, what), 30, 0, 30);
            x.set(1, 11);
            edges.each("one part is near:", 0, what -> x.week(0, what), 20, 18, 38);
            x.mend(0, 9, 4);
            edges.each("turns of a part by 4:", 0, what -> x.week(0, what), 20, 18, 40 + 10 + 18);
            Made.mendAll(x, 8, 3);
            Made.fill(x, 0, 0, 0);
            edges.each("all slip behind the first:", 0, what -> x.week(0, what), 20 + 12, 18 + 0 + 6 + 6, 40 + 10 + 18 + 12 + 12);
        });
        edges.told(Edges.TERMS, "A WEEK by HABITS, from how they STAND: all turns, all LOSSES, all costs; how a PART stands behind k shifts.", () -> {
            SetAgain x = Made.with(20, 2, 50, 1);
            x.mend(1, 6, 30);
            x.mend(2, 9, 5);
            Made.fill(x, 0, 0, 1, -1, 1);
            edges.each("from 30:", 0, what -> x.week(0, what), 30, 2 * 90, 70 + 180);
            Made.setAll(x, 60);
            edges.each("from 60:", 0, what -> x.week(0, what), 120, 2 * 90, 280 + 180);
            due("and where they stand stays", x.of(0, 11), 60);
            due("behind 0", x.stands(0, 0, 0), 60);
            due("behind 4", x.stands(0, 0, 4), 20);
            x.mend(1, 6, 29);
            edges.each("off by more than 29:", 0, what -> x.week(0, what), 120 + 90, 0, 280 + 210);
            due("behind 4", x.stands(0, 0, 4), 50);
        });
    }

    private void week() {
        edges.told(14, "A WEEK by HABITS: turns (what 0), LOSSES (1), costs (2). BAD, -11, -12.", () -> {
            for (int what = 0; what < 3; what++) {
                int told = what;
                edges.refused((x, shelf) -> x.week(shelf, told));
            }
            SetAgain x = Made.with(20, 2);
            x.mend(0, 1, 24);
            x.mend(0, 6, 6);
            x.mend(0, 9, 9);
            Made.fill(x, 5, 0);
            edges.each("what", -1, what -> x.week(5, what), -1, 20, 12, 90 + 10 + 12, -1);
            due("bad ahead of -11", x.week(0, 3), -1);
            Made.fill(x, 5);
            edges.each("of no shifts", -1, what -> x.week(5, what), -1, 0, 0, 0, -1);
            Made.fill(x, 5, 1, -1);
            edges.each("nobody sits", -1, what -> x.week(5, what), -1, 0, 0, 0, -1);
        });
    }

    private void stands() {
        edges.told(15, "How a PART stands behind k shifts (0 .. as many as there are) by HABITS. BAD, -11, -12.", () -> {
            for (int k : new int[] {0, 1, 21, 22, 60, 61, 237831912, Integer.MAX_VALUE}) edges.refused((x, shelf) -> x.stands(shelf, 0, k));
            SetAgain x = Made.with(20, 2, 50, 1);
            x.mend(2, 8, 3);
            Made.fill(x, 5, 0, -1, 1);
            edges.each("behind", -2, k -> x.stands(5, 2, k), -1, -1, 30, 17, 14, 47, -1, -1);
            edges.each("part", -1, p -> x.stands(5, p, 3), -1, 50, 50, 47, -1);
            due("far behind", x.stands(5, 0, Integer.MAX_VALUE), -1);
            due("far ahead", x.stands(5, 0, Integer.MIN_VALUE), -1);
            due("bad ahead of -11", x.stands(0, 3, 0), -1);
            due("bad ahead of -11", x.stands(0, 0, -1), -1);
            Made.fill(x, 5);
            edges.each("of no shifts, behind", -1, k -> x.stands(5, 2, k), -1, 30, -1);
            Made.fill(x, 5, new int[21]);
            edges.each("of 21, behind", 20, k -> x.stands(5, 0, k), 20, 20, -1);
            Made.fill(x, 5, new int[22]);
            edges.each("of 22, behind", 20, k -> x.stands(5, 0, k), 20, 20, -1);
        });
    }

    private void pays() {
        edges.told(Edges.TERMS, "PAYS: of all NEARS (0 .. 60) of one SITTER that by which all costs of a WEEK are least (of like ones the least); these.", () -> {
            SetAgain x = Made.with(20, 1, 60, 1, 31, 8);
            Made.fill(x, 0, 0);
            edges.each("10 turns cost what they spare:", 0, what -> x.pays(0, 0, what), 0, 30);
            Made.mendAll(x, 9, 2);
            edges.each("they cost more:", 0, what -> x.pays(0, 0, what), 10, 30);
            due("its own near stays", x.of(0, 6), 0);
            x.mend(0, 6, 3);
            edges.each("whatever it is:", 0, what -> x.pays(0, 0, what), 10, 30);
            edges.each("of one who does not sit:", 0, what -> x.pays(0, 1, what), 0, 60);
            Made.setAll(x, 0);
            x.mend(1, 4, 0);
            Made.fill(x, 0, 1);
            edges.each("60 off, nothing is lost:", 0, what -> x.pays(0, 1, what), 60, 0);
            x.mend(1, 0, 59);
            x.mend(1, 1, 59);
            x.mend(1, 2, 59);
            edges.each("59 off:", 0, what -> x.pays(0, 1, what), 59, 0);
            x.mend(2, 6, 60);
            Made.fill(x, 0, 2);
            edges.each("of one who does not sit, by the near of him who does:", 0, what -> x.pays(0, 0, what), 0, 3 * 31 * 8);
        });
        edges.told(16, "PAYS, of a SITTER: NEAR (what 0), costs (1). BAD, -11, -12.", () -> {
            edges.refused((x, shelf) -> x.pays(shelf, 0, 0));
            edges.refused((x, shelf) -> x.pays(shelf, 1, 1));
            SetAgain x = Made.with(20, 1, 50, 8);
            Made.mendAll(x, 9, 3);
            Made.fill(x, 5, 0, 1);
            edges.each("what", -1, what -> x.pays(5, 0, what), -1, 10, 30 + 180, -1);
            edges.each("sitter", -1, s -> x.pays(5, s, 1), -1, 30 + 180, 90 + 270, -1);
            due("no such sitter, bad ahead of -11", x.pays(0, 2, 0), -1);
            due("bad ahead of -11", x.pays(0, 0, 2), -1);
            Made.fill(x, 5);
            edges.each("of no shifts", -1, what -> x.pays(5, 0, what), -1, 0, 0, -1);
        });
    }

    // ---- memories, marks

    private void memories() {
        edges.told(Edges.TERMS, "MEMORIES: m SITTERS (0 .. 3) have one each: they pay FETCH (0 .. 99; 3 at first) instead of the turns of a PART, if these cost more:", () -> {
            SetAgain x = Made.with(20, 8);
            Made.fill(x, 0, 0);
            due("fetch at first", x.of(0, 10), 3);
            due("3 of each part", x.memories(0, 1, 1), 9);
            x.mend(0, 10, 9);
            edges.each("10 turns are more:", 0, what -> x.memories(0, 1, what), 1, 27);
            x.mend(0, 10, 10);
            edges.each("10 turns are not more:", 0, what -> x.memories(0, 1, what), 0, 30);
            x.mend(0, 9, 9);
            x.set(2, 22);
            edges.each("by parts: 90, 10, 2:", 0, what -> x.memories(0, 1, what), 1, 10 + 10 + 2);
            due("fetch 0", x.mend(0, 10, 0), 10);
            edges.each("fetch 0:", 0, what -> x.memories(0, 1, what), 1, 0);
            due("fetch 99", x.mend(0, 10, 99), 0);
            edges.each("fetch 99:", 0, what -> x.memories(0, 1, what), 0, 90 + 10 + 2);
            x.mend(0, 6, 60);
            x.mend(0, 10, 0);
            edges.each("what it does not turn it does not fetch:", 0, what -> x.memories(0, 1, what), 0, 8 * 22);
        });
        edges.told(Edges.TERMS, "for whom (bits; of like ones fewest, then the least) so that all costs of a WEEK by HABITS are least; these.", () -> {
            SetAgain x = Made.with(20, 8, 30, 8, 40, 8, 40, 8);
            Made.fill(x, 0, 1, 0, 1, 2);
            // Spared of three parts: by sitter 0 7 each, by 1 none and 7, by 2 7.
            edges.each("of three alike the least,", 0, m -> x.memories(0, m, 0), 0, 1, 3, 7);
            edges.each("costs,", 0, m -> x.memories(0, m, 1), 90, 69, 48, 27);
            Made.fill(x, 0, 2, 3, 0);
            edges.each("a second who turns nothing has none,", 0, m -> x.memories(0, m, 0), 0, 1, 5, 5);
            edges.each("costs,", 0, m -> x.memories(0, m, 1), 90, 90 - 51, 90 - 51 - 21, 90 - 51 - 21);
            Made.fill(x, 0, 1, 0, 1, 0, 2);
            edges.each("17, 14, 7 of each part,", 0, m -> x.memories(0, m, 0), 0, 4, 5, 7);
            Made.fill(x, 0, 0, 1, 0, 1, 2);
            edges.each("two alike,", 0, m -> x.memories(0, m, 0), 0, 1, 3, 7);
            Made.fill(x, 0, -1, 5);
            edges.each("nobody sits,", 0, m -> x.memories(0, m, 0), 0, 0, 0, 0);
            SetAgain eight = Made.with(0, 8, 10, 8, 20, 8, 30, 8, 40, 8, 50, 8, 55, 8, 60, 8);
            Made.fill(eight, 0, 7, 0, 7, 1, 6, 0);
            edges.each("109 by 0, 84 by 7, 47 by 1, 42 by 6 of each part,", 0, m -> eight.memories(0, m, 0), 0, 1, 129, 131);
        });
        edges.told(17, "MEMORIES for m SITTERS at most (0 .. 3): bits (what 0), costs (1). BAD, -11, -12.", () -> {
            edges.refused((x, shelf) -> x.memories(shelf, 0, 0));
            edges.refused((x, shelf) -> x.memories(shelf, 3, 1));
            SetAgain x = Made.with(20, 8, 40, 8);
            Made.fill(x, 5, 0);
            edges.each("m", -1, m -> x.memories(5, m, 0), -1, 0, 1, 1, 1, -1);
            edges.each("what", -1, what -> x.memories(5, 3, what), -1, 1, 9, -1);
            due("bad ahead of -11", x.memories(0, 4, 0), -1);
            due("bad ahead of -11", x.memories(0, -1, 0), -1);
            due("bad ahead of -11", x.memories(0, 0, 2), -1);
            Made.fill(x, 5);
            edges.each("of no shifts", 0, what -> x.memories(5, 3, what), 0, 0);
            SetAgain nobody = new SetAgain();
            Made.fill(nobody, 5, 0, 1);
            edges.each("of no sitters", 0, what -> nobody.memories(5, 3, what), 0, 0);
        });
    }

    private void marked() {
        edges.told(Edges.TERMS, "MARKED: with marks turns cost half of PRICE (cut) for all: what a WEEK costs less.", () -> {
            SetAgain x = Made.with(20, 8, 40, 8);
            Made.fill(x, 0, 0, 1);
            due("half of 1 is 0", x.marked(0), 90);
            int[] saved = {0, 1, 1, 2, 2, 3, 3, 4, 4, 5};
            for (int price = 0; price <= 9; price++) {
                Made.mendAll(x, 9, price);
                due("price " + price, x.marked(0), 90 * saved[price]);
            }
            x.mend(1, 9, 2);
            due("5, 1, 5", x.marked(0), 30 * 11);
            x.mend(0, 6, 60);
            x.mend(1, 6, 60);
            due("what is lost is lost with marks, too", x.marked(0), 0);
        });
        edges.told(18, "MARKED: what it saves. BAD, -11, -12.", () -> {
            edges.refused((x, shelf) -> x.marked(shelf));
            SetAgain x = Made.with(20, 8);
            Made.fill(x, 5, 0);
            due("30 turns", x.marked(5), 30);
            Made.fill(x, 5);
            due("of no shifts", x.marked(5), 0);
            Made.fill(x, 5, 1);
            due("nobody sits", x.marked(5), 0);
        });
    }

    // ---- chairs

    private void chairs() {
        edges.told(Edges.TERMS, "CHAIRS: c of them (1 .. 3), one PART, never touched, the SITTERS of a WEEK parted among them (each SITTER has one): the least of all LOSSES;", () -> {
            SetAgain x = Made.with(0, 1, 60, 2, 10, 1, 40, 1, 41, 3);
            Made.fill(x, 0, 0, 1, 2, 3, 4, 3);
            due("one chair is the best common setting", x.chairs(0, 1, -1), x.best(0, 0, 1));
            edges.each("chairs", 1, c -> x.chairs(0, c, -1), 41 + 38 + 31 + 2, 10 + 38 + 2, 10 + 2);
            due("the part does not count by slips", x.mend(0, 8, 3), 0);
            due("nor by where it stands", x.set(0, 1), 29);
            edges.each("chairs", 1, c -> x.chairs(0, c, -1), 112, 50, 12);
            Made.fill(x, 0, 1, 1, 1);
            edges.each("one sitter,", 1, c -> x.chairs(0, c, -1), 0, 0, 0);
            Made.fill(x, 0, 0, 1);
            edges.each("two sitters,", 1, c -> x.chairs(0, c, -1), 60, 0, 0);
            Made.fill(x, 0, 0, 1, 0, 0);
            edges.each("who sits thrice loses thrice,", 1, c -> x.chairs(0, c, -1), 120, 0, 0);
            for (int want : new int[] {0, 1, 59, 60}) {
                x.mend(0, 0, want);
                edges.each("who wants " + want + " sits at it,", 1, c -> x.chairs(0, c, -1), (60 - want) * 2, 0, 0);
            }
        });
        edges.told(Edges.TERMS, "on which a SITTER sits (of like ones the first by numbers, chairs numbered as they come; NOT: it does not sit).", () -> {
            SetAgain x = Made.with(10, 8, 20, 8, 30, 8, 50, 1);
            Made.fill(x, 0, 2, 1, 0);
            edges.each("0 with 1, or 1 with 2: sitter", 0, s -> x.chairs(0, 2, s), 0, 0, 1, -2);
            edges.each("each on one: sitter", 0, s -> x.chairs(0, 3, s), 0, 1, 2, -2);
            edges.each("all on one: sitter", 0, s -> x.chairs(0, 1, s), 0, 0, 0, -2);
            Made.fill(x, 0, 2, 3, 1);
            edges.each("the first who sits has chair 0: sitter", 0, s -> x.chairs(0, 2, s), -2, 0, 1, 1);
            x.mend(2, 0, 20);
            edges.each("alike, so on one chair: sitter", 0, s -> x.chairs(0, 3, s), -2, 0, 0, 1);
            x.mend(3, 0, 20);
            edges.each("all alike: sitter", 0, s -> x.chairs(0, 3, s), -2, 0, 0, 0);
            SetAgain eight = Made.with(60, 8, 0, 8, 30, 8, 59, 8, 1, 8, 31, 8, 58, 8, 29, 8);
            Made.fill(eight, 0, 7, 6, 5, 4, 3, 2, 1, 0);
            edges.each("eight: sitter", -1, s -> eight.chairs(0, 3, s), 16 + 8 + 16, 0, 1, 2, 0, 1, 2, 0, 2);
        });
        edges.told(19, "CHAIRS (pc: 10 times the PART, and c): the least (sitter -1), on which a SITTER sits. BAD, -11, -12; NOT.", () -> {
            edges.refused((x, shelf) -> x.chairs(shelf, 1, -1));
            edges.refused((x, shelf) -> x.chairs(shelf, 23, 1));
            SetAgain x = Made.with(20, 8, 40, 8);
            x.mend(0, 1, 21);
            x.mend(0, 2, 22);
            Made.fill(x, 5, 0, 1);
            edges.each("pc", -1, pc -> x.chairs(5, pc, -1), -1, -1, 160, 0, 0, -1, -1, -1, -1, -1, -1, -1, 152, 0, 0, -1);
            edges.each("pc", 18, pc -> x.chairs(5, pc, -1), -1, -1, -1, 144, 0, 0, -1, -1, -1, -1, -1, -1, -1, -1, -1, -1, -1);
            for (int pc : new int[] {-10, -9, -11, 101, Integer.MAX_VALUE, Integer.MIN_VALUE, Integer.MIN_VALUE + 1}) due("pc " + pc, x.chairs(5, pc, -1), -1);
            edges.each("sitter", -2, s -> x.chairs(5, 2, s), -1, 0, 0, 1, -1);
            due("bad ahead of -11", x.chairs(0, 4, -1), -1);
            due("bad ahead of -11", x.chairs(0, 1, 2), -1);
            Made.fill(x, 5, 1);
            due("it does not sit", x.chairs(5, 2, 0), -2);
            due("bad ahead of not", x.chairs(5, 0, 0), -1);
            Made.fill(x, 5);
            edges.each("of no shifts, sitter", -1, s -> x.chairs(5, 2, s), 0, -2, -2, -1);
        });
    }

    // ---- one who is wilful

    private void wilful() {
        edges.told(Edges.TERMS, "WILFUL: one SITTER sets all PARTS to a told setting as it leaves, each time (turns by PRICE; then they SLIP): what a WEEK by HABITS costs more (below 0: less).", () -> {
            SetAgain x = Made.with(20, 1, 50, 8);
            Made.fill(x, 0, 0);
            due("to 0", x.wilful(0, 0, 0), 60);
            due("to 60", x.wilful(0, 0, 60), 120);
            due("as it is", x.wilful(0, 0, 20), 0);
            Made.fill(x, 0, 0, 0);
            due("each time, and it sets it back", x.wilful(0, 0, 0), 60 + 60 + 60);
            x.mend(0, 9, 5);
            due("by price", x.wilful(0, 0, 0), 7 * 60);
            x.mend(0, 9, 1);
            Made.mendAll(x, 8, 3);
            due("behind the first it slips from 21 to 18, not to 17", x.wilful(0, 0, 21), 3 + 3 - 3);
            due("to 0 it slips no more", x.wilful(0, 0, 0), 60 + 60 + 60 - 9);
            Made.mendAll(x, 8, 0);
            Made.fill(x, 0, 0, 1);
            due("what the next wants: no more, no less", x.wilful(0, 0, 50), 0);
            due("of one who does not sit", Made.with(20, 1).wilful(0, 0, 5), -2000000000);
            x.mend(1, 6, 60);
            due("less: 30 turns of each part spare 30 off for 8 hours", x.wilful(0, 0, 50), 90 - 720);
            due("more, behind the last", x.wilful(0, 1, 50), 90);
            due("where it stands stays", x.of(0, 11), 30);
            x.sitter(7, 7);
            due("of one who does not sit", x.wilful(0, 2, 0), 0);
        });
        edges.told(20, "WILFUL: a SITTER by a setting. VOID: BAD, or no ROW of bytes.", () -> {
            edges.refused((x, shelf) -> x.wilful(shelf, 1, 60), -2000000000, -2000000000, -2000000000);
            SetAgain x = Made.with(20, 8, 40, 8);
            Made.fill(x, 5, 0);
            edges.each("sitter", -1, s -> x.wilful(5, s, 10), -2000000000, 30, 0, -2000000000);
            due("setting -1", x.wilful(5, 0, -1), -2000000000);
            due("setting 0", x.wilful(5, 0, 0), 60);
            due("setting 60", x.wilful(5, 0, 60), 120);
            due("setting 61", x.wilful(5, 0, 61), -2000000000);
            Made.fill(x, 5);
            due("of no shifts", x.wilful(5, 0, 0), 0);
        });
    }
}
