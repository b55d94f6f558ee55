/** Desks and their acts, shelves, rows: terms 5, promises 32 to 41. */
final class EdgesOfShelves {
    private static final long NONE = Long.MIN_VALUE;
    private final Edges edges;

    EdgesOfShelves(Edges edges) {
        this.edges = edges;
    }

    void run() {
        kinds();
        bodies();
        dispatch();
        shelves();
        acts();
        rows();
        elements();
        shift();
        taken();
        count();
    }

    private void due(String what, long got, long want) {
        edges.due(what, got, want);
    }

    // ---- desks

    private void kinds() {
        edges.told(Edges.TERMS, "DESKS' ways are kept by call as BODIES 0 .. 49, of KINDS: 0 DESK; 1 LEFT under DESK; 2 EACH under DESK; 3 NEAR under EACH; 4 KEEP under LEFT; 5 ROOM under NEAR; 6 TOLD under DESK; 7 CAT under KEEP.", () -> {
            SetAgain x = new SetAgain();
            for (int n = 0; n < 50; n++) due("body", x.body(n % 8), n);
            due("the 51st", x.body(0), -3);
            String[] above = {"0", "10", "20", "320", "410", "5320", "60", "7410"};
            for (int kind = 0; kind < 8; kind++) {
                x.keep(0, 40 + kind);
                for (int k = 0; k < 8; k++) due(kind + " for " + k, x.taken(0, k), above[kind].indexOf('0' + k) >= 0 ? kind : -12);
            }
        });
        edges.told(Edges.TERMS, "ACTS with x (an int that wraps): 0 sets, 1 sits, 2 slips, 3 tells; n its number.", () -> {
            SetAgain x = new SetAgain();
            for (int n = 0; n < 50; n++) x.body(n == 49 ? 0 : n % 8);
            edges.each("acts of 0 by 5:", -1, act -> x.act(0, act, 5), 0, 5, 10, 5, 10 - 1, 0);
            edges.each("acts of 49 by 5:", -1, act -> x.act(49, act, 5), 0, 54, 108, 5 ^ 49, 108 - (1 ^ 49), 0);
            due("sets wraps", x.act(49, 0, Integer.MAX_VALUE), Integer.MIN_VALUE + 48);
            due("sits wraps", x.act(0, 1, 1 << 30), Integer.MIN_VALUE);
            due("slips of -1", x.act(49, 2, -1), -50);
            due("tells wraps", x.act(0, 3, 1 << 30), Integer.MAX_VALUE);
            due("a negation wraps", x.act(2, 1, (1 << 30) - 2), Integer.MIN_VALUE);
            due("x + 1 wraps", x.act(3, 1, Integer.MAX_VALUE), -6);
            due("times 3 wraps", x.act(3, 2, 1 << 30), ((1 << 30) ^ 3) * 3);
            due("plus 3 wraps", x.act(1, 0, Integer.MAX_VALUE), Integer.MIN_VALUE + 3);
        });
    }

    /** An act of desk 3, of a kind, by 5: its answer, and the bodies that ran. */
    private void ran(int kind, int act, int want, int... bodies) {
        SetAgain x = new SetAgain();
        for (int n = 0; n < 3; n++) x.body(7);
        x.body(kind);
        due("kind " + kind + " act " + act, x.act(3, act, 5), want);
        due("so many ran", x.count(4), bodies.length);
        for (int i = 0; i < bodies.length; i++) due("trace " + i, x.trace(i), bodies[i]);
        due("no more", x.trace(bodies.length), -1);
    }

    private void bodies() {
        edges.told(Edges.TERMS, "BODIES of acts: SETS (an interface of DESK): 1 sets: x + n.", () -> ran(0, 0, 8, 1));
        edges.told(Edges.TERMS, "DESK: 10 sits: sets(x) * 2.", () -> ran(0, 1, 16, 10, 1));
        edges.told(Edges.TERMS, "11 slips: x ^ n.", () -> ran(0, 2, 6, 11));
        edges.told(Edges.TERMS, "TELLS (of DESK): 2 tells: sits(x) - slips(1).", () -> ran(0, 3, 16 - 2, 2, 10, 1, 11));
        edges.told(Edges.TERMS, "LEFT: 20 sets: super.sets(x) + 3.", () -> {
            ran(1, 0, 11, 20, 1);
            ran(1, 1, 22, 10, 20, 1);
            ran(1, 2, 6, 11);
            ran(1, 3, 22 - 2, 2, 10, 20, 1, 11);
        });
        edges.told(Edges.TERMS, "EACH: 30 sits: -super.sits(x).", () -> {
            ran(2, 0, 8, 1);
            ran(2, 1, -16, 30, 10, 1);
            ran(2, 2, 6, 11);
            ran(2, 3, -16 - 2, 2, 30, 10, 1, 11);
        });
        edges.told(Edges.TERMS, "NEAR: 40 slips: super.slips(x) * 3.", () -> {
            ran(3, 0, 8, 1);
            ran(3, 2, 18, 40, 11);
        });
        edges.told(Edges.TERMS, "41 sits: super.sits(x + 1).", () -> {
            ran(3, 1, -18, 41, 30, 10, 1);
            ran(3, 3, -18 - 6, 2, 41, 30, 10, 1, 40, 11);
        });
        edges.told(Edges.TERMS, "KEEP: 50 slips: super.slips(x) - sets(2).", () -> {
            ran(4, 0, 11, 20, 1);
            ran(4, 1, 22, 10, 20, 1);
            ran(4, 2, 6 - 8, 50, 11, 20, 1);
            ran(4, 3, 22 - (2 - 8), 2, 10, 20, 1, 50, 11, 20, 1);
        });
        edges.told(Edges.TERMS, "ROOM: 60 tells: super.tells(x) ^ 5.", () -> {
            ran(5, 0, 8, 1);
            ran(5, 1, -18, 41, 30, 10, 1);
            ran(5, 2, 18, 40, 11);
            ran(5, 3, -19, 60, 2, 41, 30, 10, 1, 40, 11);
            SetAgain x = new SetAgain();
            x.body(5);
            edges.each("tells of", 0, of -> x.act(0, 3, of), -5 ^ 5, -7 ^ 5, -9 ^ 5, -11 ^ 5);
        });
        edges.told(Edges.TERMS, "TOLD: 70 sets: super.sets(x) * 2.", () -> {
            ran(6, 0, 16, 70, 1);
            ran(6, 1, 32, 10, 70, 1);
            ran(6, 2, 6, 11);
            ran(6, 3, 32 - 2, 2, 10, 70, 1, 11);
        });
        edges.told(Edges.TERMS, "CAT: 80 sits: super.sits(x) + slips(2).", () -> {
            ran(7, 0, 11, 20, 1);
            ran(7, 1, 22 + (1 - 8), 80, 10, 20, 1, 50, 11, 20, 1);
            ran(7, 2, 6 - 8, 50, 11, 20, 1);
        });
        edges.told(Edges.TERMS, "81 tells: super.tells(x) - 1.", () -> ran(7, 3, 15 - (2 - 8) - 1, 81, 2, 80, 10, 20, 1, 50, 11, 20, 1, 50, 11, 20, 1));
    }

    private void dispatch() {
        edges.told(Edges.TERMS, "sets(..) and so on: the body of its own KIND, or of the next KIND above that has one; super: from the KIND above the body's on.", () -> {
            ran(0, 1, 16, 10, 1);
            ran(6, 1, 32, 10, 70, 1);
            ran(7, 1, 15, 80, 10, 20, 1, 50, 11, 20, 1);
            ran(5, 1, -18, 41, 30, 10, 1);
        });
        edges.told(Edges.TERMS, "THE TRACE: numbers of the bodies that ran in the latest act(), as they began; the first 24 are kept.", () -> {
            SetAgain x = new SetAgain();
            for (int kind = 0; kind < 8; kind++) x.body(kind);
            for (int kind = 0; kind < 8; kind++) {
                for (int act = 0; act < 4; act++) {
                    x.act(kind, act, -9);
                    // No act runs as many as 24, so all are kept, and no more.
                    due("of " + kind + " by " + act + " all are kept", x.trace(x.count(4) - 1) > 0 && x.count(4) <= 24 ? 1 : 0, 1);
                    due("of " + kind + " by " + act + " no more", x.trace(x.count(4)), -1);
                }
            }
            x.act(7, 3, 0);
            due("24 places", x.trace(24), -1);
            x.act(0, 1, 0);
            edges.each("the latest alone:", -1, i -> x.trace(i), -1, 10, 1, -1);
        });
    }

    private void acts() {
        edges.told(32, "A DESK of a KIND (0 .. 7) is kept: its number. BAD, FULL.", () -> {
            SetAgain x = new SetAgain();
            edges.each("kind", -1, kind -> x.body(kind), -1, 0, 1, 2, 3, 4, 5, 6, 7, -1);
            for (int n = 8; n < 50; n++) due("body", x.body(7), n);
            edges.each("full, kind", -1, kind -> x.body(kind), -1, -3, -3, -3, -3, -3, -3, -3, -3, -1);
            due("50 stay", x.count(3), 50);
        });
        edges.told(33, "An ACT (0 .. 3) of a DESK with x. 0, and no TRACE then: no such DESK, ACT.", () -> {
            SetAgain x = new SetAgain();
            due("no desk", x.act(0, 0, 5), 0);
            x.body(0);
            x.body(1);
            int[][] none = {{-1, 0}, {2, 0}, {50, 0}, {1, -1}, {1, 4}, {Integer.MAX_VALUE, 0}, {0, Integer.MIN_VALUE}};
            for (int[] call : none) {
                due("an act", x.act(1, 1, 5), 18);
                due("its trace", x.count(4), 3);
                due("none: " + call[0] + ", " + call[1], x.act(call[0], call[1], 5), 0);
                due("no trace then", x.trace(0), -1);
                due("none ran", x.count(4), 0);
            }
        });
        edges.told(34, "THE TRACE's i-th body. BAD.", () -> {
            SetAgain x = new SetAgain();
            due("none yet", x.trace(0), -1);
            x.body(1);
            x.act(0, 3, 5);
            edges.each("trace", -1, i -> x.trace(i), -1, 2, 10, 20, 1, 11, -1);
            for (int i : new int[] {23, 24, 25, Integer.MAX_VALUE, Integer.MIN_VALUE}) due("trace " + i, x.trace(i), -1);
        });
    }

    // ---- shelves

    private void shelves() {
        edges.told(Edges.TERMS, "SHELVES 0 .. 5 each hold nothing (at first), a DESK (a BODY), or a ROW: of 0 bytes, 1 shorts, 2 ints, 3 longs, 4 booleans, of 0 .. 60 elements, 0 at first (false);", () -> {
            SetAgain x = new SetAgain();
            edges.each("nothing at first: shelf", -1, s -> x.put(s, 0, 1), -1, -11, -11, -11, -11, -11, -11, -1);
            edges.each("nor a desk: shelf", -1, s -> x.taken(s, 0), -1, -11, -11, -11, -11, -11, -11, -1);
            edges.each("sort", -1, sort -> x.row(0, sort, 1), -1, 1, 1, 1, 1, 1, -1);
            for (int sort = 0; sort <= 4; sort++) {
                due("none of sort " + sort, x.row(0, sort, 0), 1);
                due("no place", x.put(0, 0, 1), -13);
                due("60 of sort " + sort, x.row(0, sort, 60), 1);
                due("0 at first", x.element(0, 59), 0);
                for (int i = 0; i < 60; i++) x.put(0, i, 1);
                due("the last", x.element(0, 59), 1);
                due("the 61st", x.put(0, 60, 1), -13);
                due("anew", x.row(0, sort, 60), 1);
                for (int i = 0; i < 60; i += 59) due("0 at first", x.element(0, i), 0);
            }
            x.row(0, 3, 5);
            x.body(2);
            due("a desk", x.keep(0, 0), 1);
            due("is there", x.taken(0, 2), 2);
            due("no row", x.put(0, 0, 1), -12);
            due("nothing", x.keep(0, -1), 1);
            due("nothing is there", x.put(0, 0, 1), -11);
        });
        edges.told(Edges.TERMS, "what is put in keeps its lowest bits (a boolean: whether it is not 0; 1 or 0).", () -> {
            SetAgain x = new SetAgain();
            long[] put = {127, 128, 255, 256, -128, -129, 32767, 32768, 65535, 65536, -32769, 1L << 31, (1L << 32) - 1, 1L << 32, Long.MIN_VALUE, Long.MAX_VALUE, -1, 0};
            for (int sort = 0; sort <= 4; sort++) x.row(sort, sort, put.length);
            for (int i = 0; i < put.length; i++) {
                long v = put[i];
                long[] kept = {(byte) v, (short) v, (int) v, v, v == 0 ? 0 : 1};
                for (int sort = 0; sort <= 4; sort++) {
                    x.put(sort, i, v);
                    due(v + " by sort " + sort, x.element(sort, i), kept[sort]);
                }
            }
            due("not of a byte but of what is put", x.element(4, 3), 1);
        });
        edges.told(Edges.TERMS, "The host's REFUSALS: -11 nothing is there where something is wanted; -12 it is of another kind; -13 a place that is not there; -14 a size below 0.", () -> {
            SetAgain x = new SetAgain();
            due("nothing", x.week(0, 0), -11);
            due("a size below 0", x.row(0, 0, -1), -14);
            due("far below", x.row(0, 0, Integer.MIN_VALUE), -14);
            due("nothing still", x.week(0, 0), -11);
            x.row(0, 1, 3);
            due("another kind", x.week(0, 0), -12);
            due("a place that is not there", x.put(0, 3, 1), -13);
            due("nor ahead of it", x.put(0, -1, 1), -13);
        });
    }

    private void rows() {
        edges.told(35, "A SHELF holds nothing (body -1), or a DESK: 1. BAD.", () -> {
            SetAgain x = new SetAgain();
            x.body(4);
            edges.each("body", -2, body -> x.keep(0, body), -1, 1, 1, -1);
            edges.each("shelf", -1, s -> x.keep(s, 0), -1, 1, 1, 1, 1, 1, 1, -1);
            edges.each("is there: shelf", 0, s -> x.taken(s, 1), 4, 4, 4, 4, 4, 4);
            due("nothing", x.keep(5, -1), 1);
            due("is there", x.taken(5, 0), -11);
            Made.fill(x, 5, 1);
            due("nothing, where a row was", x.keep(5, -1), 1);
            due("is there", x.element(5, 0), NONE);
            due("shelf 6 holds nothing", x.keep(6, -1), -1);
        });
        edges.told(36, "A SHELF holds a ROW: 1. BAD (sort, n above 60); -14.", () -> {
            SetAgain x = new SetAgain();
            edges.each("shelf", -1, s -> x.row(s, 0, 1), -1, 1, 1, 1, 1, 1, 1, -1);
            edges.each("sort", -1, sort -> x.row(0, sort, 1), -1, 1, 1, 1, 1, 1, -1);
            edges.each("n", -2, n -> x.row(0, 0, n), -14, -14, 1, 1);
            edges.each("n", 59, n -> x.row(0, 0, n), 1, 1, -1, -1);
            due("n far above", x.row(0, 0, Integer.MAX_VALUE), -1);
            due("bad ahead of -14", x.row(0, 5, -1), -1);
            due("bad ahead of -14", x.row(6, 0, -1), -1);
            due("60 stay", x.put(0, 59, 1), 1);
        });
    }

    private void elements() {
        edges.told(37, "Element i of a ROW becomes v: 1. BAD, -11, -12, -13.", () -> {
            SetAgain x = new SetAgain();
            x.body(0);
            x.keep(1, 0);
            x.row(2, 3, 3);
            edges.each("shelf", -1, s -> x.put(s, 1, 7), -1, -11, -12, 1, -11, -11, -11, -1);
            edges.each("place", -1, i -> x.put(2, i, 5 + i), -13, 1, 1, 1, -13);
            edges.each("is", 0, i -> (int) x.element(2, i), 5, 6, 7);
            edges.each("bad first: shelf", -1, s -> x.put(s, -1, 7), -1, -11, -12, -13, -11, -11, -11, -1);
            due("far behind", x.put(2, Integer.MAX_VALUE, 1), -13);
            due("far ahead", x.put(2, Integer.MIN_VALUE, 1), -13);
        });
        edges.told(38, "Element i of a ROW; Long.MIN_VALUE: BAD, -11 to -13.", () -> {
            SetAgain x = new SetAgain();
            x.body(0);
            x.keep(1, 0);
            x.row(2, 3, 3);
            x.put(2, 1, Long.MAX_VALUE);
            long[] shelves = {NONE, NONE, NONE, Long.MAX_VALUE, NONE, NONE, NONE, NONE};
            for (int s = -1; s <= 6; s++) due("shelf " + s, x.element(s, 1), shelves[s + 1]);
            for (int i : new int[] {-1, 3, 60, Integer.MAX_VALUE, Integer.MIN_VALUE}) due("place " + i, x.element(2, i), NONE);
            due("the first", x.element(2, 0), 0);
            due("the last", x.element(2, 2), 0);
        });
    }

    // ---- shifts of elements

    private void shift() {
        edges.told(39, "n elements of a ROW from i on come to another one (or the same) from j on, as they all were before: n.", () -> {
            SetAgain x = new SetAgain();
            for (int sort = 0; sort <= 4; sort++) {
                x.row(0, sort, 4);
                x.row(1, sort, 3);
                for (int i = 0; i < 4; i++) x.put(0, i, i);
                due("sort " + sort, x.shift(0, 1, 1, 0, 3), 3);
                for (int i = 0; i < 3; i++) due("came " + i, x.element(1, i), sort == 4 ? 1 : i + 1);
                due("stays", x.element(0, 1), 1);
            }
            Made.fill(x, 0, 1, 2, 3, 4, 5);
            due("up in itself", x.shift(0, 0, 0, 1, 4), 4);
            edges.each("is", 0, i -> (int) x.element(0, i), 1, 1, 2, 3, 4);
            due("down in itself", x.shift(0, 2, 0, 0, 3), 3);
            edges.each("is", 0, i -> (int) x.element(0, i), 2, 3, 4, 3, 4);
            due("onto itself", x.shift(0, 0, 0, 0, 5), 5);
            edges.each("is", 0, i -> (int) x.element(0, i), 2, 3, 4, 3, 4);
            due("none, from its end on", x.shift(0, 5, 0, 5, 0), 0);
        });
        edges.told(39, "BAD, -11 (either), -12 (no ROWS, or of unlike sorts), -13.", () -> {
            SetAgain x = new SetAgain();
            x.body(0);
            x.keep(1, 0);
            x.row(2, 3, 3);
            x.row(3, 3, 2);
            x.row(4, 2, 3);
            edges.each("of shelf", -1, s -> x.shift(s, 0, 2, 0, 1), -1, -11, -12, 1, 1, -12, -11, -1);
            edges.each("to shelf", -1, s -> x.shift(2, 0, s, 0, 1), -1, -11, -12, 1, 1, -12, -11, -1);
            edges.each("of a desk to shelf", -1, s -> x.shift(1, 9, s, 9, 9), -1, -11, -12, -12, -12, -12, -11, -1);
            edges.each("of nothing to shelf", -1, s -> x.shift(0, 9, s, 9, 9), -1, -11, -11, -11, -11, -11, -11, -1);
            edges.each("nowhere to shelf", -1, s -> x.shift(2, -1, s, -1, -1), -1, -11, -12, -13, -13, -12, -11, -1);
            edges.each("none of an unlike sort", 0, n -> x.shift(2, 0, 4, 0, n), -12);
            edges.each("n", -1, n -> x.shift(2, 0, 3, 0, n), -13, 0, 1, 2, -13);
            edges.each("from", -1, i -> x.shift(2, i, 3, 0, 1), -13, 1, 1, 1, -13);
            edges.each("to", -1, j -> x.shift(2, 0, 3, j, 1), -13, 1, 1, -13);
            edges.each("none from", -1, i -> x.shift(2, i, 3, 0, 0), -13, 0, 0, 0, 0, -13);
            edges.each("none to", -1, j -> x.shift(2, 0, 3, j, 0), -13, 0, 0, 0, -13);
            int far = Integer.MAX_VALUE, low = Integer.MIN_VALUE;
            int[][] places = {{far, 0, 1}, {0, far, 1}, {0, 0, far}, {1, 1, far}, {far, far, far}, {low, 0, 1}, {0, low, 1}, {0, 0, low}, {far, 0, low}};
            for (int[] p : places) due("far: " + java.util.Arrays.toString(p), x.shift(2, p[0], 3, p[1], p[2]), -13);
        });
    }

    private void taken() {
        edges.told(40, "What a SHELF holds, taken for a DESK of KIND k (0 .. 7), or under it: its KIND. BAD, -11, -12.", () -> {
            SetAgain x = new SetAgain();
            x.body(4);
            x.keep(1, 0);
            x.row(2, 3, 3);
            edges.each("shelf", -1, s -> x.taken(s, 0), -1, -11, 4, -12, -11, -11, -11, -1);
            edges.each("for kind", -1, k -> x.taken(1, k), -1, 4, 4, -12, -12, 4, -12, -12, -12, -1);
            edges.each("bad ahead of -11, kind", -1, k -> x.taken(0, k), -1, -11, -11, -11, -11, -11, -11, -11, -11, -1);
            edges.each("bad ahead of -12, kind", -1, k -> x.taken(2, k), -1, -12, -12, -12, -12, -12, -12, -12, -12, -1);
        });
    }

    private void count() {
        edges.told(41, "How many: 0 SITTERS, 1 bytes on THE TAPE, 2 changes that may be UNDONE, 3 BODIES, 4 bodies that ran in the latest act() (all, kept or not). BAD.", () -> {
            SetAgain x = new SetAgain();
            edges.each("at first", -1, what -> x.count(what), -1, 0, 0, 0, 0, 0, -1);
            x.sitter(20, 8);
            x.sitter(20, 8);
            x.feed('d');
            for (int v = 1; v <= 4; v++) x.mend(0, 0, v);
            for (int kind = 0; kind < 8; kind++) x.body(kind);
            x.act(7, 3, 5);
            edges.each("then", -1, what -> x.count(what), -1, 2, 1, 4, 8, 14, -1);
            x.undo();
            x.law();
            x.act(8, 0, 0);
            edges.each("then", -1, what -> x.count(what), -1, 2, 0, 3, 8, 0, -1);
            x.redo();
            due("done again", x.count(2), 4);
            due("far above", x.count(Integer.MAX_VALUE), -1);
            due("far below", x.count(Integer.MIN_VALUE), -1);
        });
    }
}
