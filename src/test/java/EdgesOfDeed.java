/** Shifts in deed, what is led of them, changes undone, an image: terms 4, promises 24 to 31. */
final class EdgesOfDeed {
    private final Edges edges;

    EdgesOfDeed(Edges edges) {
        this.edges = edges;
    }

    void run() {
        sit();
        set();
        night();
        led();
        changes();
        undone();
        image();
    }

    private void due(String what, long got, long want) {
        edges.due(what, got, want);
    }

    // ---- shifts in deed

    private void sit() {
        edges.told(Edges.TERMS, "IN DEED: SIT (a SITTER comes, by its HABIT; nothing slips by it): what it cost;", () -> {
            SetAgain x = Made.with(20, 8, 29, 2);
            Made.mendAll(x, 8, 3);
            x.mend(1, 6, 9);
            due("30 turns", x.sit(0), 30);
            edges.each("nothing slips: part", 0, p -> x.of(p, 11), 20, 20, 20);
            due("off by near: 9 off three parts for 2 hours", x.sit(1), 54);
            edges.each("it stays: part", 0, p -> x.of(p, 11), 20, 20, 20);
            x.mend(1, 6, 8);
            due("off by more", x.sit(1), 27);
            edges.each("it is set: part", 0, p -> x.of(p, 11), 29, 29, 29);
            due("again: nothing", x.sit(1), 0);
        });
        edges.told(24, "SIT: what it cost (turns and LOSS). BAD.", () -> {
            SetAgain x = Made.with(20, 8);
            due("sitter -1", x.sit(-1), -1);
            due("sitter 1", x.sit(1), -1);
            due("sitter 8", x.sit(8), -1);
            x.mend(0, 6, 10);
            x.mend(0, 9, 9);
            x.set(0, 31);
            due("11 turns by 9, and 10 off two parts for 8 hours", x.sit(0), 99 + 160);
            due("no sitter", new SetAgain().sit(0), -1);
        });
    }

    private void set() {
        edges.told(Edges.TERMS, "SET a PART by hand: the turns;", () -> {
            SetAgain x = new SetAgain();
            x.mend(0, 9, 9);
            due("down, whatever a turn costs", x.set(0, 0), 30);
            due("as it stands", x.set(0, 0), 0);
            due("up", x.set(0, 60), 60);
            edges.each("part", 0, p -> x.of(p, 11), 60, 30, 30);
        });
        edges.told(25, "SET a PART to v: the turns. BAD.", () -> {
            SetAgain x = new SetAgain();
            edges.each("part", -1, p -> x.set(p, 31), -1, 1, 1, 1, -1);
            due("v -1", x.set(2, -1), -1);
            due("v 61", x.set(2, 61), -1);
            due("v 60", x.set(2, 60), 29);
            due("v 0", x.set(2, 0), 60);
            due("turns", x.led(1), 3 + 29 + 60);
        });
    }

    private void night() {
        edges.told(Edges.TERMS, "NIGHT: all PARTS SLIP.", () -> {
            SetAgain x = new SetAgain();
            for (int part = 0; part < 3; part++) {
                x.set(part, 2);
                x.mend(part, 8, part + 1);
            }
            due("all", x.night(), 3);
            edges.each("part", 0, p -> x.of(p, 11), 1, 0, 0);
            due("one", x.night(), 1);
            edges.each("part", 0, p -> x.of(p, 11), 0, 0, 0);
            due("none", x.night(), 0);
        });
        edges.told(26, "NIGHT: how many PARTS slipped.", () -> {
            SetAgain x = new SetAgain();
            due("none slips", x.night(), 0);
            x.mend(2, 8, 3);
            due("one", x.night(), 1);
            x.mend(0, 8, 1);
            due("two", x.night(), 2);
            due("turns are none", x.led(1), 0);
            due("nor shifts", x.led(0), 0);
        });
    }

    private void led() {
        edges.told(Edges.TERMS, "LED: shifts, turns, LOSSES in deed, the dearest shift, its SITTER.", () -> {
            SetAgain x = Made.with(20, 8, 35, 2, 45, 2);
            x.mend(1, 6, 60);
            x.sit(0);
            edges.each("30 turns:", 0, what -> x.led(what), 1, 30, 0, 30, 0);
            x.sit(1);
            edges.each("15 off three parts for 2 hours:", 0, what -> x.led(what), 2, 30, 90, 90, 1);
            x.set(0, 24);
            edges.each("by hand:", 0, what -> x.led(what), 2, 34, 90, 90, 1);
            x.night();
            Made.fill(x, 0, 0, 1, 2);
            x.week(0, 2);
            x.drawn(0, 1, 20, 0);
            edges.each("by night, by weeks that are told:", 0, what -> x.led(what), 2, 34, 90, 90, 1);
            Made.mendAll(x, 9, 2);
            x.sit(2);
            edges.each("71 turns by 2:", 0, what -> x.led(what), 3, 34 + 71, 90, 142, 2);
        });
        edges.told(27, "LED: shifts (what 0), turns (1), LOSSES (2), the dearest (3; 0), its SITTER (4; NOT: none; the first such). BAD.", () -> {
            SetAgain x = Made.with(20, 8, 40, 8, 30, 1);
            edges.each("at first", -1, what -> x.led(what), -1, 0, 0, 0, 0, -2, -1);
            x.set(0, 35);
            x.set(0, 30);
            x.sit(9);
            edges.each("none sat", 0, what -> x.led(what), 0, 10, 0, 0, -2);
            x.sit(1);
            Made.setAll(x, 30);
            x.sit(0);
            edges.each("two as dear, so the first", 0, what -> x.led(what), 2, 100, 0, 30, 1);
            x.mend(0, 0, 41);
            x.sit(0);
            edges.each("a cheaper one", 0, what -> x.led(what), 3, 121, 0, 30, 1);
            x.mend(0, 0, 10);
            x.sit(0);
            edges.each("a dearer one", 0, what -> x.led(what), 4, 152, 0, 31, 0);
            SetAgain y = Made.with(30, 8, 30, 8);
            y.sit(1);
            y.sit(0);
            edges.each("two that cost nothing, so the first", 0, what -> y.led(what), 2, 0, 0, 0, 1);
        });
    }

    // ---- changes

    private void changes() {
        edges.told(Edges.TERMS, "CHANGES (SLIPS, PRICE of PARTS; all numbers of SITTERS; FETCH; telling the same number is none)", () -> {
            SetAgain x = Made.with(20, 8);
            for (int what = 0; what <= 10; what++) {
                int number = what, was = x.of(0, what);
                due("the same " + what, x.mend(0, what, was), was);
                due("is none", x.count(2), 0);
                due("what is not so", x.mend(0, what, 100), -1);
                due("is none", x.count(2), 0);
                due("another " + what, x.mend(0, what, was + 1), was);
                due("is one", x.count(2), 1);
                due("undone", x.undo(), 0);
                due("is as it was", x.of(0, number), was);
                due("none is left", x.undo(), -5);
                due("done again", x.redo(), 0);
                due("is another", x.of(0, number), was + 1);
                due("none is left", x.redo(), -5);
                x.undo();
            }
            x.set(0, 5);
            x.sit(0);
            x.night();
            x.image();
            x.back();
            x.sitter(5, 5);
            Made.laws(x, "d");
            Made.fill(x, 0, 1);
            x.body(0);
            x.keep(1, 0);
            due("nothing else is one", x.count(2), 0);
        });
        edges.told(Edges.TERMS, "can be UNDONE, the latest first, and DONE AGAIN (as long as no other came behind);", () -> {
            SetAgain x = Made.with(20, 8);
            x.mend(0, 0, 21);
            x.mend(0, 0, 22);
            x.mend(0, 1, 23);
            due("undone", x.undo(), 2);
            due("undone", x.undo(), 1);
            edges.each("want", 0, what -> x.of(0, what), 21, 20, 20);
            due("done again", x.redo(), 1);
            edges.each("want", 0, what -> x.of(0, what), 22, 20, 20);
            due("the same is no other", x.mend(0, 0, 22), 22);
            due("nor what is not so", x.mend(0, 0, 61), -1);
            due("nor one who comes", x.sitter(1, 1), 1);
            due("done again", x.redo(), 0);
            edges.each("want", 0, what -> x.of(0, what), 22, 23, 20);
            x.undo();
            due("another one", x.mend(0, 2, 24), 20);
            due("so none can be done again", x.redo(), -5);
            edges.each("want", 0, what -> x.of(0, what), 22, 20, 24);
            edges.each("undone,", 0, i -> x.undo(), 2, 1, 0, -5, -5);
            edges.each("want", 0, what -> x.of(0, what), 20, 20, 20);
            edges.each("done again,", 0, i -> x.redo(), 2, 1, 0, -5, -5);
            edges.each("want", 0, what -> x.of(0, what), 22, 20, 24);
        });
        edges.told(Edges.TERMS, "40 at most are kept.", () -> {
            for (int n = 39; n <= 43; n++) {
                SetAgain x = Made.with(0, 8);
                // By turns of three numbers, so that each change has a place, a number before and one behind of its own.
                for (int i = 1; i <= n; i++) x.mend(0, i % 3, i);
                int kept = Math.min(n, 40);
                due("of " + n, x.count(2), kept);
                for (int i = n; i > n - kept; i--) {
                    due("undone", x.undo(), i - 1 - n + kept);
                    due("as it was", x.of(0, i % 3), Math.max(0, i - 3));
                }
                due("no more", x.undo(), -5);
                for (int i = n - kept + 1; i <= n; i++) {
                    due("done again", x.redo(), n - i);
                    due("as it became", x.of(0, i % 3), i);
                }
                due("no more", x.redo(), -5);
                due("one more", x.mend(0, n % 3, 60), n);
                due("of " + (n + 1), x.count(2), 40);
            }
        });
    }

    private void undone() {
        edges.told(30, "UNDONE: how many may still be. STATE: none.", () -> {
            SetAgain x = Made.with(20, 8);
            due("none", x.undo(), -5);
            x.mend(0, 0, 21);
            x.mend(2, 8, 1);
            x.mend(0, 10, 9);
            edges.each("undone,", 0, i -> x.undo(), 2, 1, 0, -5);
            due("as it was", x.of(0, 10), 3);
        });
        edges.told(31, "DONE AGAIN: how many may still be. STATE: none.", () -> {
            SetAgain x = Made.with(20, 8);
            due("none", x.redo(), -5);
            x.mend(0, 0, 21);
            due("none was undone", x.redo(), -5);
            x.mend(2, 8, 1);
            x.mend(0, 10, 9);
            x.undo();
            x.undo();
            x.undo();
            edges.each("done again,", 0, i -> x.redo(), 2, 1, 0, -5);
            due("as it became", x.of(0, 10), 9);
        });
    }

    // ---- an image

    private void image() {
        edges.told(Edges.TERMS, "AN IMAGE keeps how PARTS STAND, what LED tells.", () -> {
            SetAgain x = Made.with(20, 8, 45, 8);
            x.set(2, 33);
            x.sit(0);
            x.set(1, 50);
            due("kept", x.image(), 1);
            x.sit(1);
            x.mend(0, 0, 7);
            x.mend(0, 8, 3);
            x.night();
            x.undo();
            due("laid back", x.back(), 1);
            edges.each("part", 0, p -> x.of(p, 11), 20, 50, 20);
            edges.each("led", 0, what -> x.led(what), 1, 3 + 10 + 10 + 13 + 30, 0, 33, 0);
            due("what was mended stays", x.of(0, 0), 7);
            due("what was undone stays", x.of(0, 8), 0);
            due("what may be undone, too", x.count(2), 1);
            x.sit(1);
            x.sit(1);
            due("laid back again", x.back(), 1);
            edges.each("part", 0, p -> x.of(p, 11), 20, 50, 20);
            x.sit(1);
            due("a later one", x.image(), 2);
            x.sit(0);
            due("the latest is laid back", x.back(), 2);
            edges.each("part", 0, p -> x.of(p, 11), 45, 45, 45);
        });
        edges.told(28, "AN IMAGE is kept: shifts.", () -> {
            SetAgain x = Made.with(20, 8);
            due("none", x.image(), 0);
            x.sit(0);
            due("one", x.image(), 1);
            x.sit(0);
            x.sit(0);
            due("three", x.image(), 3);
        });
        edges.told(29, "It is laid back: shifts. STATE: there is none.", () -> {
            SetAgain x = Made.with(20, 8);
            x.sit(0);
            due("there is none", x.back(), -5);
            due("one shift stays", x.led(0), 1);
            SetAgain y = Made.with(20, 8);
            y.image();
            y.sit(0);
            due("of none sat", y.back(), 0);
            edges.each("led", 0, what -> y.led(what), 0, 0, 0, 0, -2);
            due("stands", y.of(0, 11), 30);
        });
    }
}
