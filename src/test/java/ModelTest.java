import java.util.Random;

/** Runs of calls drawn by seeds, each answered by SetAgain and by the model. */
public final class ModelTest {
    private static final int RUNS = 1500, CALLS = 512, TEXTS = 3000;
    private static int wrong = 0, passed = 0;
    private static Random random;
    private static SetAgain x;
    private static Model m;
    private static String where;

    public static void main(String[] args) {
        int runs = Integer.getInteger("runs", RUNS);
        for (int run = 0; run < runs && wrong < 10; run++) {
            random = new Random(run);
            oneRun(run);
        }
        for (int text = 0; text < TEXTS && wrong < 10; text++) {
            random = new Random(1000000 + text);
            oneText(text);
        }
        System.out.println("ModelTest: " + passed + " passed, " + wrong + " failed");
        if (wrong != 0) System.exit(1);
    }

    private static void due(String call, long got, long want) {
        if (got == want) {
            passed++;
            return;
        }
        wrong++;
        System.out.println(where + ": " + call + " answered " + got + ", the model says " + want);
    }

    private static int below(int n) {
        return random.nextInt(n);
    }

    /** Mostly 0 .. n-1, now and then a place beyond. */
    private static int near(int n) {
        int odd = below(40);
        if (odd == 0) return -1;
        if (odd == 1) return n;
        if (odd == 2) return random.nextInt();
        return below(n);
    }

    private static void oneRun(int run) {
        x = new SetAgain();
        m = new Model();
        int calls = 0;
        int crew = below(9);
        for (int i = 0; i < crew; i++, calls++) sitter();
        if (below(4) > 0) {
            int n = below(26);
            row(below(2), 0, n);
            for (int i = 0; i < n; i++, calls++) put(below(2), i, below(crew + 2) - 1);
        }
        if (below(3) == 0) {
            String text = text();
            calls += text.length() + 1;
            feedAll("run " + run, text);
        }
        for (; calls < CALLS - 1; calls++) {
            where = "run " + run + ", call " + calls;
            oneCall();
        }
    }

    private static void oneCall() {
        switch (below(12)) {
            case 0 -> sitters();
            case 1, 2 -> mend();
            case 3, 4 -> parts();
            case 5, 6 -> habits();
            case 7 -> seen();
            case 8 -> deed();
            case 9 -> acts();
            default -> shelves();
        }
    }

    private static void sitter() {
        int v = near(61), h = 1 + near(12);
        due("sitter(" + v + ", " + h + ")", x.sitter(v, h), m.sitter(v, h));
    }

    private static void sitters() {
        int a = near(6), i = below(3) == 0 ? near(61) : near(4), n = near(10), c = near(5);
        switch (below(5)) {
            case 0 -> sitter();
            case 1 -> due("sitters(" + a + ", " + i + ", " + n + ")", x.sitters(a, i, n), m.sitters(a, i, n));
            case 2 -> due("count(" + c + ")", x.count(c), m.count(c));
            case 3 -> {
                int letter = below(10) == 0 ? near(256) : "duswhk123;?+-*".charAt(below(14));
                due("feed(" + letter + ")", x.feed(letter), m.feed(letter));
            }
            default -> {
                if (below(6) == 0) due("law()", x.law(), m.law());
            }
        }
    }

    private static void mend() {
        int number = near(8), what = near(12);
        int v = below(20) == 0 ? near(101) : what >= 6 && what != 6 || what == 3 || what == 4 ? near(10) : near(61);
        if (what > 7) number = near(3);
        if (what == 10) number = near(1);
        if (what == 5) v = 1 + near(12);
        switch (below(5)) {
            case 0 -> due("of(" + number + ", " + what + ")", x.of(number, what), m.of(number, what));
            case 1 -> due("undo()", x.undo(), m.undo());
            case 2 -> due("redo()", x.redo(), m.redo());
            default -> due("mend(" + number + ", " + what + ", " + v + ")", x.mend(number, what, v), m.mend(number, what, v));
        }
    }

    private static int week() {
        return below(8) == 0 ? near(6) : below(2);
    }

    private static void parts() {
        int s = week(), p = near(3), v = near(61), k = near(22), w = near(4), one = near(8);
        switch (below(7)) {
            case 0 -> due("loss(" + one + ", " + p + ", " + v + ")", x.loss(one, p, v), m.loss(one, p, v));
            case 1 -> due("never(" + s + ", " + p + ", " + v + ")", x.never(s, p, v), m.never(s, p, v));
            case 2 -> due("best(" + s + ", " + p + ", " + w + ")", x.best(s, p, w), m.best(s, p, w));
            case 3 -> due("middle(" + s + ", " + p + ")", x.middle(s, p), m.middle(s, p));
            case 4 -> {
                if (below(8) == 0) due("shifts(" + s + ", " + p + ", " + (k - 1) + ")", x.shifts(s, p, k - 1), m.shifts(s, p, k - 1));
            }
            case 5 -> due("once(" + s + ", " + p + ", " + w + ")", x.once(s, p, w), m.once(s, p, w));
            default -> {
                int pc = below(10) == 0 ? near(40) : 10 * below(3) + 1 + below(3), sitter = near(9) - 1;
                if (below(20) == 0) due("chairs(" + s + ", " + pc + ", " + sitter + ")", x.chairs(s, pc, sitter), m.chairs(s, pc, sitter));
            }
        }
    }

    private static void habits() {
        int s = week(), p = near(3), v = near(61), k = near(22), w = near(3), one = near(8);
        switch (below(6)) {
            case 0 -> due("week(" + s + ", " + w + ")", x.week(s, w), m.week(s, w));
            case 1 -> due("stands(" + s + ", " + p + ", " + k + ")", x.stands(s, p, k), m.stands(s, p, k));
            case 2 -> due("pays(" + s + ", " + one + ", " + w + ")", x.pays(s, one, w), m.pays(s, one, w));
            case 3 -> due("memories(" + s + ", " + k + ", " + w + ")", x.memories(s, k % 5, w), m.memories(s, k % 5, w));
            case 4 -> due("marked(" + s + ")", x.marked(s), m.marked(s));
            default -> due("wilful(" + s + ", " + one + ", " + v + ")", x.wilful(s, one, v), m.wilful(s, one, v));
        }
    }

    /** How a part stands behind shifts, as it may be by habits, or about so, is put in a row. */
    private static void see(int shelf, int part) {
        int n = below(14);
        row(shelf, 0, n);
        for (int i = 0; i < n; i++) {
            int stood = Math.max(-1, m.stands(0, part, i + 1));
            int kind = below(12);
            put(shelf, i, kind == 0 ? below(63) - 1 : kind < 4 ? -1 : stood);
        }
    }

    private static void seen() {
        int s = below(3) == 0 ? near(6) : 2, p = near(3), k = near(12), ws = below(10) == 0 ? near(60) : 10 * below(2) + 2;
        int seed = random.nextInt(), n = near(21), w = near(2);
        switch (below(8)) {
            case 0 -> {
                if (below(10) == 0) see(2, below(3));
            }
            case 1, 2, 3, 4 -> due("who(" + s + ", " + p + ", " + k + ")", x.who(s, p, k), m.who(s, p, k));
            case 5, 6 -> due("judge(" + ws + ", " + p + ")", x.judge(ws, p), m.judge(ws, p));
            default -> {
                int shelf = week();
                due("drawn(" + shelf + ", " + seed + ", " + n + ", " + w + ")", x.drawn(shelf, seed, n, w), m.drawn(shelf, seed, n, w));
            }
        }
    }

    private static void deed() {
        int one = near(8), p = near(3), v = near(61), w = near(5);
        switch (below(7)) {
            case 0, 1 -> due("sit(" + one + ")", x.sit(one), m.sit(one));
            case 2 -> due("set(" + p + ", " + v + ")", x.set(p, v), m.set(p, v));
            case 3 -> due("night()", x.night(), m.night());
            case 4 -> due("image()", x.image(), m.image());
            case 5 -> due("back()", x.back(), m.back());
            default -> due("led(" + w + ")", x.led(w), m.led(w));
        }
    }

    private static void acts() {
        int kind = near(8), one = near(12), a = near(4), n = random.nextInt(), i = near(24), s = 2 + near(4);
        switch (below(6)) {
            case 0 -> due("body(" + kind + ")", x.body(kind), m.body(kind));
            case 1, 2 -> due("act(" + one + ", " + a + ", " + n + ")", x.act(one, a, n), m.act(one, a, n));
            case 3 -> due("trace(" + i + ")", x.trace(i), m.trace(i));
            case 4 -> due("keep(" + s + ", " + (one - 1) + ")", x.keep(s, one - 1), m.keep(s, one - 1));
            default -> due("taken(" + s + ", " + kind + ")", x.taken(s, kind), m.taken(s, kind));
        }
    }

    private static void shelves() {
        int s = near(6), i = near(24), o = near(6), j = near(24), n = near(12), b = 2 + near(4);
        switch (below(5)) {
            case 0 -> {
                if (below(4) == 0) row(b, near(5), below(10) == 0 ? -3 : near(61));
            }
            case 1, 2 -> put(below(2) == 0 ? s : below(2), i, below(2) == 0 ? below(9) - 1 : random.nextLong());
            case 3 -> due("element(" + s + ", " + i + ")", x.element(s, i), m.element(s, i));
            default -> due("shift(" + s + ", " + i + ", " + o + ", " + j + ", " + n + ")", x.shift(s, i, o, j, n), m.shift(s, i, o, j, n));
        }
    }

    private static void row(int s, int sort, int n) {
        due("row(" + s + ", " + sort + ", " + n + ")", x.row(s, sort, n), m.row(s, sort, n));
    }

    private static void put(int s, int i, long v) {
        due("put(" + s + ", " + i + ", " + v + ")", x.put(s, i, v), m.put(s, i, v));
    }

    // ---- laws

    private static void oneText(int number) {
        x = new SetAgain();
        m = new Model();
        for (int i = 0; i < 3; i++) sitter();
        feedAll("text " + number, text());
        for (int i = 0; i < 40; i++) {
            int s = below(3), p = below(3), v = below(61);
            due("loss(" + s + ", " + p + ", " + v + ")", x.loss(s, p, v), m.loss(s, p, v));
        }
    }

    private static void feedAll(String name, String text) {
        where = name + " «" + text + "»";
        for (int i = 0; i < text.length(); i++) due("feed", x.feed(text.charAt(i)), m.feed(text.charAt(i)));
        due("law()", x.law(), m.law());
    }

    private static String text() {
        StringBuilder text = new StringBuilder(e(0));
        for (int n = below(3); n > 0; n--) text.append(below(2) == 0 ? ";" : below(2) == 0 ? "?" : below(2) == 0 ? ";" : "?").append(e(0));
        if (text.length() > 0 && below(3) == 0) spoil(text);
        if (text.length() > 120) text.setLength(below(4) == 0 ? 120 : below(120));
        return text.toString();
    }

    private static void spoil(StringBuilder text) {
        int at = below(text.length());
        char sign = below(20) == 0 ? (char) below(256) : "duswhk0123456789()!-+*/%<=>&|?;x ".charAt(below(33));
        switch (below(4)) {
            case 0 -> text.setLength(at);
            case 1 -> text.deleteCharAt(at);
            case 2 -> text.insert(at, sign);
            default -> text.setCharAt(at, sign);
        }
    }

    private static final String[] SIGNS = {"|", "&", "<=>", "+-", "*/%"};

    private static String e(int level) {
        if (level == 5) return o(0);
        StringBuilder e = new StringBuilder(e(level + 1));
        int more = below(6) == 0 ? 1 + below(2) : 0;
        for (int n = 0; n < (level == 2 && below(10) != 0 ? Math.min(1, more) : more); n++) {
            e.append(SIGNS[level].charAt(below(SIGNS[level].length()))).append(e(level + 1));
        }
        return e.toString();
    }

    private static String o(int depth) {
        int kind = below(depth > 8 ? 5 : 9);
        if (kind < 3) return String.valueOf("duswhk".charAt(below(6)));
        if (kind < 5) return String.valueOf(below(below(3) == 0 ? 10000 : below(10) == 0 ? 12000 : 100));
        if (kind == 5) return "!" + o(depth + 1);
        if (kind == 6) return "-" + o(depth + 1);
        return "(" + (below(3) == 0 ? o(depth + 1) : e(3)) + ")";
    }
}
