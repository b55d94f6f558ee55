/** Each promise of the document by answers worked out by hand: ordinary, at the edges, and wrong inputs. */
public final class PromisesTest {
    private static int wrong = 0, passed = 0, promise = 0;

    public static void main(String[] args) {
        newObject();
        sitter();
        sitters();
        mendAndOf();
        feed();
        law();
        loss();
        never();
        best();
        middle();
        shifts();
        once();
        week();
        stands();
        pays();
        memories();
        marked();
        chairs();
        wilful();
        who();
        judge();
        drawn();
        sit();
        setAndNight();
        led();
        images();
        undone();
        bodies();
        acts();
        keep();
        row();
        putAndElement();
        shift();
        taken();
        count();
        System.out.println("PromisesTest: " + passed + " passed, " + wrong + " failed");
        if (wrong != 0) System.exit(1);
    }

    private static void due(String what, long got, long want) {
        if (got == want) {
            passed++;
            return;
        }
        wrong++;
        System.out.println("promise " + promise + ": " + what + " answered " + got + ", due is " + want);
    }

    /** Shelf 4 holds a desk, 5 shorts: no rows of bytes. */
    private static SetAgain odd() {
        SetAgain x = Made.with(10, 8);
        x.body(0);
        x.keep(4, 0);
        x.row(5, 1, 4);
        return x;
    }

    private static void newObject() {
        promise = 1;
        SetAgain x = new SetAgain();
        for (int what = 0; what < 5; what++) due("count", x.count(what), 0);
        for (int part = 0; part < 3; part++) {
            due("stands", x.of(part, 11), 30);
            due("slips", x.of(part, 8), 0);
            due("price", x.of(part, 9), 1);
        }
        due("fetch", x.of(0, 10), 3);
        for (int shelf = 0; shelf < 6; shelf++) due("week", x.week(shelf, 0), -11);
        for (int what = 0; what < 4; what++) due("led", x.led(what), 0);
        due("led", x.led(4), -2);
        due("back", x.back(), -5);
        due("undo", x.undo(), -5);
        due("redo", x.redo(), -5);
        due("trace", x.trace(0), -1);
    }

    private static void sitter() {
        promise = 2;
        SetAgain x = new SetAgain();
        due("v -1", x.sitter(-1, 8), -1);
        due("v 61", x.sitter(61, 8), -1);
        due("hours 0", x.sitter(5, 0), -1);
        due("hours 13", x.sitter(5, 13), -1);
        due("none came", x.count(0), 0);
        due("first", x.sitter(7, 12), 0);
        int[] told = {7, 7, 7, 1, 1, 12, 0, 0};
        for (int what = 0; what < 8; what++) due("of " + what, x.of(0, what), told[what]);
        for (int i = 1; i < 8; i++) due("next", x.sitter(60, 1), i);
        due("full", x.sitter(60, 1), -3);
        due("bad ahead of full", x.sitter(61, 1), -1);
        due("eight", x.count(0), 8);
    }

    private static void sitters() {
        promise = 3;
        SetAgain x = odd();
        due("shelf", x.sitters(6, 0, 1), -1);
        due("shelf", x.sitters(-1, 0, 1), -1);
        due("n 0", x.sitters(0, 0, 0), -1);
        due("n 9", x.sitters(0, 0, 9), -1);
        due("missing", x.sitters(0, 0, 1), 0);
        due("a desk", x.sitters(4, 0, 1), -12);
        due("shorts", x.sitters(5, 0, 1), -12);
        Made.fill(x, 0, 9, 1, 2, 3, 4, 60, 0, 60, 12, 5, 5, 5, 0, 5, 5);
        due("ended within a four", x.sitters(0, 13, 1), 0);
        due("at place 12, within a four", x.sitters(0, 12, 1), 0);
        due("behind its end", x.sitters(0, 15, 1), 0);
        due("far behind", x.sitters(0, Integer.MAX_VALUE, 8), 0);
        due("ahead of it", x.sitters(0, -1, 8), 0);
        due("hours 0 end it", x.sitters(0, 1, 8), 2);
        SetAgain y = new SetAgain();
        Made.fill(y, 0, 9, 9, 9, 9, 8, 8, 8, 8);
        Made.fill(y, 0, 7, 7, 7, 7, 6, 6, 6);
        due("what stood behind its end is not there", y.sitters(0, 0, 8), 1);
        due("first", x.of(1, 0), 1);
        due("second", x.of(1, 1), 2);
        due("third", x.of(1, 2), 3);
        due("hours", x.of(1, 5), 4);
        due("the next", x.of(2, 0), 60);
        due("its third", x.of(2, 2), 60);
        due("up", x.of(2, 3), 1);
        due("told one", x.sitters(0, 1, 1), 1);
        Made.fill(x, 1, 61, 1, 1, 1);
        due("want 61", x.sitters(1, 0, 1), 0);
        Made.fill(x, 1, 1, -1, 1, 1);
        due("want -1", x.sitters(1, 0, 1), 0);
        Made.fill(x, 1, 1, 1, 1, 13);
        due("hours 13", x.sitters(1, 0, 1), 0);
        Made.fill(x, 1, 1, 1, 1, 1, 2, 2, 2, 2, 3, 3, 3, 3, 4, 4, 4, 4, 5, 5, 5, 5);
        due("until full", x.sitters(1, 0, 8), 4);
        due("full", x.sitters(1, 0, 8), 0);
        due("count", x.count(0), 8);
    }

    private static void mendAndOf() {
        promise = 4;
        SetAgain x = Made.with(10, 8, 20, 6);
        int[] was = {20, 20, 20, 1, 1, 6, 0, 0};
        int[] most = {60, 60, 60, 9, 9, 12, 60, 12};
        for (int what = 0; what < 8; what++) {
            due("above " + what, x.mend(1, what, most[what] + 1), -1);
            due("below " + what, x.mend(1, what, what == 5 ? 0 : -1), -1);
            due("most " + what, x.mend(1, what, most[what]), was[what]);
            due("is told " + what, x.of(1, what), most[what]);
            due("the other " + what, x.of(0, what), new int[] {10, 10, 10, 1, 1, 8, 0, 0}[what]);
            due("no sitter " + what, x.mend(2, what, 1), -1);
            due("no sitter " + what, x.mend(-1, what, 1), -1);
        }
        due("slips 4", x.mend(2, 8, 4), -1);
        due("slips", x.mend(2, 8, 3), 0);
        due("price 10", x.mend(2, 9, 10), -1);
        due("price", x.mend(2, 9, 9), 1);
        due("no part", x.mend(3, 8, 1), -1);
        due("no part", x.mend(3, 9, 1), -1);
        due("fetch 100", x.mend(0, 10, 100), -1);
        due("fetch of 1", x.mend(1, 10, 9), -1);
        due("fetch", x.mend(0, 10, 99), 3);
        due("what 11", x.mend(0, 11, 9), -1);
        due("what -1", x.mend(0, -1, 9), -1);
        promise = 5;
        due("slips", x.of(2, 8), 3);
        due("slips of another", x.of(1, 8), 0);
        due("price", x.of(2, 9), 9);
        due("fetch", x.of(0, 10), 99);
        due("fetch of 1", x.of(1, 10), -1);
        due("no part", x.of(3, 8), -1);
        due("no part", x.of(3, 11), -1);
        due("no part", x.of(-1, 11), -1);
        due("what 12", x.of(0, 12), -1);
        due("what -1", x.of(0, -1), -1);
        due("no sitter", x.of(2, 0), -1);
        x.set(1, 4);
        due("stands", x.of(1, 11), 4);
        due("stands", x.of(0, 11), 30);
    }

    private static void feed() {
        promise = 6;
        SetAgain x = new SetAgain();
        due("-1", x.feed(-1), -1);
        due("256", x.feed(256), -1);
        due("0", x.feed(0), 1);
        due("255", x.feed(255), 2);
        for (int i = 3; i <= 120; i++) due("feed", x.feed('1'), i);
        due("full", x.feed('1'), -3);
        due("bad ahead of full", x.feed(256), -1);
    }

    /** Laws by the loss of the second sitter (wants 20, 6 hours) by part 2 at 23, or at 20 and 15. */
    private static void law() {
        promise = 7;
        String[] laws = {"d", "u", "s", "w", "h", "k", "0", "9999", "0007", "d*h", "2+3*4", "(2+3)*4", "9-2-3", "7/2", "(0-7)/2+9",
            "7/0+5", "7%4", "7%0+5", "!0", "!5+1", "-5+9", "--5", "3<4", "4<3", "3=3", "4>3", "3|0", "0|0", "2&1", "2&0", "0|2&1",
            "1<2+1", "0?5;7", "1?5;7", "0?5", "0?5;0?6;d?8;9", "s-30", "9999*9", "5-7", "!!!!!!3", "((((((7))))))", "-(-(-(0-4)))",
            "d>2?d*h;u", "d>3?d*h;u", "9999*9999*9999", "1=1=", "u&!k|d"};
        int[] due = {3, 1, 23, 20, 6, 2, 0, 9999, 7, 18, 14, 20, 4, 3, 6,
            5, 3, 5, 1, 1, 4, 5, 1, 0, 1, 1, 1, 0, 1, 0, 1,
            1, 7, 5, 0, 8, 0, 9999, 0, 1, 7, 4,
            18, 1, 9999, 9999, 1};
        SetAgain x = new SetAgain();
        for (int i = 0; i < laws.length; i++) {
            if (i % 20 == 0) x = Made.with(1, 1, 20, 6);
            boolean text = !laws[i].equals("1=1=");
            due(laws[i], Made.laws(x, laws[i]), text ? 1 : -103);
            due("the tape", x.count(1), 0);
            due("loss by " + laws[i], x.loss(1, 2, 23), i == 44 ? Math.max(0, Math.min(9999, 9999 * 9999 * 9999)) : text ? due[i] : Math.max(0, Math.min(9999, 9999 * 9999 * 9999)));
        }
        faults();
        x = Made.with(20, 6);
        due("not yet", x.loss(0, 0, 15), 30);
        due("u", Made.laws(x, "u"), 1);
        due("as wanted", x.loss(0, 0, 20), 0);
        due("below", x.loss(0, 0, 15), 0);
        due("above", x.loss(0, 0, 21), 1);
        due("a fault", Made.laws(x, "u?"), -102);
        due("the law stays", x.loss(0, 0, 21), 1);
        due("the tape is empty", x.count(1), 0);
    }

    private static void faults() {
        String[] texts = {"", "d;", "12345", "dd", "1d", "d1", "x", " d", "d ", "(", "(d", "(d;", "(d?", ")", "d)", "()", "1<2<3", "1<2>3",
            "d?1?2", "?", "d?", ";", "d;;", "+1", "1+*2", "1++2", "1+-2", "1-!2", "*", "((((((1", "(((((((1", "!!!!!!!1", "!-(!-(1+(", "1?2;3?",
            "-", "d!", "d(", "(d))", "a", "D", "d&&h", "1234", "12?3;45678"};
        int[] due = {0, 2, 4, 1, 1, 1, 0, 0, 1, 1, 2, 2, 2, 0, 1, 1, 3, 3,
            3, 0, 2, 0, 2, 0, 2, 2, -1, -1, 0, 7, 6, 6, 8, 6,
            1, 1, 1, 3, 0, 0, 2, -1, 9};
        for (int i = 0; i < texts.length; i++) {
            due("«" + texts[i] + "»", Made.laws(new SetAgain(), texts[i]), due[i] < 0 ? 1 : -100 - due[i]);
        }
        SetAgain x = new SetAgain();
        due("a byte above 127", Made.laws(x, "d" + (char) 200), -101);
        due("120 bytes", Made.laws(x, "1+".repeat(60)), -220);
        due("119 bytes", Made.laws(x, "1+".repeat(59) + "1"), 1);
        x = Made.with(20, 6);
        due("the last of 30 lines", Made.laws(x, "0?1;".repeat(29) + "-1+d"), 1);
        due("at 24", x.loss(0, 0, 24), 3);
    }

    private static void loss() {
        promise = 8;
        SetAgain x = Made.with(20, 6);
        x.mend(0, 3, 2);
        x.mend(0, 4, 5);
        x.mend(0, 1, 40);
        due("above", x.loss(0, 0, 23), 36);
        due("below", x.loss(0, 0, 17), 90);
        due("as wanted", x.loss(0, 0, 20), 0);
        due("another part", x.loss(0, 1, 43), 36);
        due("at 60", x.loss(0, 0, 60), 480);
        due("at 0", x.loss(0, 0, 0), 600);
        due("no sitter", x.loss(1, 0, 0), -1);
        due("no sitter", x.loss(-1, 0, 0), -1);
        due("no part", x.loss(0, 3, 0), -1);
        due("no part", x.loss(0, -1, 0), -1);
        due("61", x.loss(0, 0, 61), -1);
        due("-1", x.loss(0, 0, -1), -1);
        x.mend(0, 5, 7);
        due("hours mended", x.loss(0, 0, 23), 42);
        x.mend(0, 3, 0);
        due("up mended", x.loss(0, 0, 23), 0);
        x.undo();
        due("undone", x.loss(0, 0, 23), 42);
        x.mend(0, 0, 22);
        due("want mended", x.loss(0, 0, 23), 14);
    }

    /** What every call that reads a week refuses. */
    private static void refused(String call, SetAgain x, int bad, int nothing, int desk, int shorts) {
        due(call + ", no shelf", bad, -1);
        due(call + ", nothing", nothing, -11);
        due(call + ", a desk", desk, -12);
        due(call + ", shorts", shorts, -12);
    }

    private static void never() {
        promise = 9;
        SetAgain x = odd();
        refused("never", x, x.never(6, 0, 0), x.never(0, 0, 0), x.never(4, 0, 0), x.never(5, 0, 0));
        due("no shelf", x.never(-1, 0, 0), -1);
        due("bad ahead of -11", x.never(0, 3, 0), -1);
        due("bad ahead of -11", x.never(0, 0, 61), -1);
        due("-1", x.never(0, 0, -1), -1);
        x.sitter(20, 6);
        Made.fill(x, 0, 0, 1, -1, 2, 0);
        due("10", x.never(0, 0, 10), 60);
        due("20", x.never(0, 0, 20), 160);
        x.mend(0, 8, 3);
        due("slips are left out", x.never(0, 0, 20), 160);
        int[] long22 = new int[22];
        Made.fill(x, 0, long22);
        due("21 shifts at most", x.never(0, 0, 11), 21 * 8);
        x.sitter(30, 1);
        Made.fill(x, 0, 2);
        due("a sitter that came later sits", x.never(0, 0, 29), 1);
    }

    private static void best() {
        promise = 10;
        SetAgain x = odd();
        refused("best", x, x.best(6, 0, 0), x.best(0, 0, 0), x.best(4, 0, 0), x.best(5, 0, 0));
        due("what 4", x.best(0, 0, 4), -1);
        due("what -1", x.best(0, 0, -1), -1);
        due("no part", x.best(0, 3, 0), -1);
        Made.fill(x, 0, -1, 7);
        due("nobody sits", x.best(0, 0, 0), -2);
        due("nobody sits", x.best(0, 0, 3), -2);
        x.sitter(20, 8);
        Made.fill(x, 0, 0, 1);
        due("of like ones the least", x.best(0, 0, 0), 10);
        due("all losses", x.best(0, 0, 1), 80);
        due("least worst", x.best(0, 0, 2), 15);
        due("that loss", x.best(0, 0, 3), 40);
        Made.fill(x, 0, 0, 1, 1);
        due("two of three", x.best(0, 0, 0), 20);
        due("all losses", x.best(0, 0, 1), 80);
        due("least worst by the same two", x.best(0, 0, 2), 15);
        SetAgain y = Made.with(60, 3);
        Made.fill(y, 0, 0);
        due("60", y.best(0, 0, 0), 60);
        due("60", y.best(0, 0, 1), 0);
        due("60", y.best(0, 0, 2), 60);
        x.mend(0, 3, 0);
        x.mend(0, 4, 0);
        x.mend(1, 3, 0);
        x.mend(1, 4, 0);
        due("nothing is lost", x.best(0, 0, 0), 0);
        due("nothing is lost", x.best(0, 0, 2), 0);
        due("nothing is lost", x.best(0, 0, 3), 0);
    }

    private static void middle() {
        promise = 11;
        SetAgain x = odd();
        refused("middle", x, x.middle(6, 0), x.middle(0, 0), x.middle(4, 0), x.middle(5, 0));
        due("no part", x.middle(0, 3), -1);
        Made.fill(x, 0, 3);
        due("nobody sits", x.middle(0, 0), -2);
        x.sitter(20, 8);
        x.sitter(30, 8);
        Made.fill(x, 0, 0, 1, 2);
        due("the middle one", x.middle(0, 0), 20);
        Made.fill(x, 0, 0, 1);
        due("half is enough", x.middle(0, 0), 10);
        Made.fill(x, 0, 0, 1, 2, 2);
        due("half at the second", x.middle(0, 0), 20);
        Made.fill(x, 0, 0, 1, 2, 2, 2);
        due("each shift is as heavy", x.middle(0, 0), 30);
        Made.fill(x, 0, 0, 1, 2);
        x.mend(2, 3, 3);
        due("32 of 64", x.middle(0, 0), 20);
        x.mend(2, 5, 9);
        due("32 of 68", x.middle(0, 0), 30);
        x.mend(2, 4, 0);
        due("32 of 59", x.middle(0, 0), 20);
        x.mend(2, 2, 5);
        due("another part", x.middle(0, 2), 10);
        for (int s = 0; s < 3; s++) {
            x.mend(s, 3, 0);
            x.mend(s, 4, 0);
        }
        due("of no weight", x.middle(0, 0), 10);
        Made.fill(x, 0, 1, 2);
        due("of no weight", x.middle(0, 0), 20);
        x = Made.with(60, 3, 0, 2);
        Made.fill(x, 0, 0, 1);
        due("60", x.middle(0, 0), 60);
        Made.fill(x, 0, 0, 1, 1);
        due("0", x.middle(0, 0), 0);
    }

    private static void shifts() {
        promise = 12;
        SetAgain x = odd();
        refused("shifts", x, x.shifts(6, 0, 0), x.shifts(0, 0, 0), x.shifts(4, 0, 0), x.shifts(5, 0, 0));
        due("k -2", x.shifts(0, 0, -2), -1);
        due("no part", x.shifts(0, 3, 0), -1);
        x.sitter(40, 2);
        Made.fill(x, 0, 0, 1, -1, 0);
        due("20 + 30 + 30", x.shifts(0, 0, -1), 80);
        due("first", x.shifts(0, 0, 0), 10);
        due("60 lost, or 30 turns and back: the least setting", x.shifts(0, 0, 1), 10);
        x.mend(1, 5, 3);
        due("20 + 30 + 30", x.shifts(0, 0, -1), 80);
        due("second", x.shifts(0, 0, 1), 40);
        due("nobody sits: the least from which nothing more is turned", x.shifts(0, 0, 2), 10);
        due("last", x.shifts(0, 0, 3), 10);
        due("not as many", x.shifts(0, 0, 4), -2);
        due("not as many", x.shifts(0, 0, 1000), -2);
        x.mend(0, 9, 9);
        due("a turn costs 9: 20 * 9, then 30 * 3 lost", x.shifts(0, 0, -1), 270);
        x.mend(0, 9, 0);
        due("turns cost nothing", x.shifts(0, 0, -1), 0);
        due("nobody: the least", x.shifts(0, 0, 2), 0);
        x.mend(0, 9, 1);
        x.mend(0, 8, 3);
        due("20 to 10, 33 from 7 to 40, 24 from 37 to 13, as it slips to 10", x.shifts(0, 0, -1), 20 + 33 + 24);
        due("second", x.shifts(0, 0, 1), 40);
        due("nobody sits", x.shifts(0, 0, 2), 13);
        due("last", x.shifts(0, 0, 3), 10);
        SetAgain y = Made.with(60, 12, 0, 12);
        Made.fill(y, 0, 0, 1, 0);
        due("to 60 and 0", y.shifts(0, 0, -1), 150);
        due("60", y.shifts(0, 0, 0), 60);
        due("0", y.shifts(0, 0, 1), 0);
        due("60", y.shifts(0, 0, 2), 60);
        Made.fill(y, 0, 1);
        due("behind a longer one", y.shifts(0, 0, -1), 30);
        Made.fill(x, 1);
        due("no shifts", x.shifts(1, 0, -1), 0);
        due("no shifts", x.shifts(1, 0, 0), -2);
    }

    private static void once() {
        promise = 13;
        SetAgain x = odd();
        refused("once", x, x.once(6, 0, 0), x.once(0, 0, 0), x.once(4, 0, 0), x.once(5, 0, 0));
        due("what 3", x.once(0, 0, 3), -1);
        due("what -1", x.once(0, 0, -1), -1);
        due("no part", x.once(0, 3, 0), -1);
        x.sitter(30, 8);
        Made.fill(x, 0, 1, 0, 0);
        due("20 turns ahead of the second", x.once(0, 0, 0), 20);
        due("ahead of which", x.once(0, 0, 1), 1);
        due("to what", x.once(0, 0, 2), 10);
        Made.fill(x, 0, 1, -1, 0);
        due("of like ones the first", x.once(0, 0, 1), 1);
        Made.fill(x, 0, 1, 1);
        due("none", x.once(0, 0, 0), 0);
        due("none", x.once(0, 0, 1), -2);
        due("none", x.once(0, 0, 2), -2);
        x.mend(0, 8, 2);
        due("slips of none", x.once(0, 0, 0), 2);
        due("2 ahead of the second", x.once(0, 0, 1), 1);
        Made.fill(x, 0, 0);
        x.mend(0, 9, 8);
        due("of like ones none", x.once(0, 0, 1), -2);
        due("of like ones none", x.once(0, 0, 0), 160);
        SetAgain y = Made.with(60, 8, 0, 8);
        Made.fill(y, 0, 0);
        due("to 60", y.once(0, 0, 2), 60);
        Made.fill(y, 0, 1);
        due("to 0", y.once(0, 0, 2), 0);
        due("to 0", y.once(0, 0, 0), 30);
        Made.fill(x, 0);
        due("no shifts", x.once(0, 0, 0), 0);
        due("no shifts", x.once(0, 0, 1), -2);
    }

    private static void week() {
        promise = 14;
        SetAgain x = odd();
        refused("week", x, x.week(6, 0), x.week(0, 0), x.week(4, 0), x.week(5, 0));
        due("what 3", x.week(0, 3), -1);
        due("what -1", x.week(0, -1), -1);
        x.sitter(15, 2);
        x.mend(1, 6, 5);
        x.mend(1, 0, 16);
        x.mend(0, 9, 4);
        x.mend(2, 8, 1);
        Made.fill(x, 0, 0, 1, 1, -1, 0);
        // 20 each; part 0: 10 -> 16, part 1: near, part 2: 9 -> 15; then near; then back, part 2 from 12.
        due("turns", x.week(0, 0), 60 + 6 + 6 + 6 + 2);
        due("losses", x.week(0, 1), 10 + (10 + 2));
        due("costs", x.week(0, 2), 4 * (20 + 6 + 6) + 40 + 6 + 2 + 22);
        x.mend(1, 6, 6);
        due("off by 6 is near, by 7 not", x.week(0, 0), 60 + 7 + 3);
    }

    private static void stands() {
        promise = 15;
        SetAgain x = odd();
        refused("stands", x, x.stands(6, 0, 0), x.stands(0, 0, 0), x.stands(4, 0, 0), x.stands(5, 0, 0));
        due("no part", x.stands(0, 3, 0), -1);
        due("k -1", x.stands(0, 0, -1), -1);
        for (int k : new int[] {21, 22, 61, 237831912, Integer.MAX_VALUE}) {
            due("nothing by which k were too large, " + k, x.stands(0, 0, k), -11);
            due("a desk by which k were too large, " + k, x.stands(4, 0, k), -12);
            due("shorts by which k were too large, " + k, x.stands(5, 0, k), -12);
            due("no shelf, nor k", x.stands(6, 0, k), -1);
            due("no part, nor k", x.stands(0, 3, k), -1);
        }
        due("k below 0 ahead of -12", x.stands(4, 0, -1), -1);
        x.mend(0, 8, 3);
        Made.fill(x, 0, -1, 0, -1, -1, -1, -1);
        int[] stood = {30, 27, 7, 4, 1, 0, 0};
        for (int k = 0; k <= 6; k++) due("behind " + k, x.stands(0, 0, k), stood[k]);
        due("not as many", x.stands(0, 0, 7), -1);
        due("another part", x.stands(0, 1, 2), 10);
        Made.fill(x, 0, new int[25]);
        due("21 at most", x.stands(0, 0, 21), 7);
        due("22", x.stands(0, 0, 22), -1);
        due("far too many", x.stands(0, 0, Integer.MAX_VALUE), -1);
        Made.fill(x, 0);
        due("behind no shifts", x.stands(0, 0, 0), 30);
        due("no shifts", x.stands(0, 0, 1), -1);
        due("nothing is done", x.of(0, 11), 30);
    }

    private static void pays() {
        promise = 16;
        SetAgain x = odd();
        refused("pays", x, x.pays(6, 0, 0), x.pays(0, 0, 0), x.pays(4, 0, 0), x.pays(5, 0, 0));
        due("no sitter", x.pays(0, 1, 0), -1);
        due("no sitter", x.pays(0, -1, 0), -1);
        due("what 2", x.pays(0, 0, 2), -1);
        x.sitter(20, 1);
        for (int part = 0; part < 3; part++) x.mend(part, 9, 3);
        Made.fill(x, 0, 1, 0, 1, 0);
        // The second suffers 10 each from 10, which is less than 10 turns at 3; the first of all from 30.
        due("near", x.pays(0, 1, 0), 10);
        due("costs", x.pays(0, 1, 1), 3 * (10 + 60 + 10));
        due("of one who does not sit", x.pays(0, 0, 0), 0);
        due("its own near stays", x.of(1, 6), 0);
        x.mend(1, 6, 60);
        due("whatever its near is", x.pays(0, 1, 1), 240);
        SetAgain y = Made.with(60, 8);
        y.mend(0, 4, 0);
        for (int part = 0; part < 3; part++) y.set(part, 0);
        Made.fill(y, 0, 0);
        due("only from 60 off nothing is turned", y.pays(0, 0, 0), 60);
        due("which costs nothing", y.pays(0, 0, 1), 0);
    }

    private static void memories() {
        promise = 17;
        SetAgain x = odd();
        refused("memories", x, x.memories(6, 1, 0), x.memories(0, 1, 0), x.memories(4, 1, 0), x.memories(5, 1, 0));
        due("m -1", x.memories(0, -1, 0), -1);
        due("m 4", x.memories(0, 4, 0), -1);
        due("what 2", x.memories(0, 1, 2), -1);
        x.sitter(20, 8);
        x.sitter(30, 8);
        Made.fill(x, 0, 0, 1, 2, 1);
        // Turns: 20, 10, 10, 10 by each of three parts: spared 17, 14 (twice 7), 7.
        due("none", x.memories(0, 0, 0), 0);
        due("none", x.memories(0, 0, 1), 150);
        due("one", x.memories(0, 1, 0), 1);
        due("one", x.memories(0, 1, 1), 150 - 51);
        due("two", x.memories(0, 2, 0), 3);
        due("two", x.memories(0, 2, 1), 150 - 51 - 42);
        due("three", x.memories(0, 3, 0), 7);
        due("three", x.memories(0, 3, 1), 36);
        x.mend(0, 10, 20);
        due("not more than fetch", x.memories(0, 3, 0), 0);
        x.mend(0, 10, 10);
        due("fewest", x.memories(0, 3, 0), 1);
        x.mend(0, 10, 0);
        Made.fill(x, 0, 1, 2, 1);
        x.set(0, 10);
        x.set(1, 10);
        x.set(2, 10);
        due("20 of 30 turns", x.memories(0, 1, 0), 2);
        Made.fill(x, 0, 2, 1, 0);
        x.set(0, 40);
        x.set(1, 40);
        x.set(2, 40);
        due("of like ones the least", x.memories(0, 2, 0), 3);
        x.mend(2, 0, 31);
        x.mend(0, 10, 99);
        due("costs stay", x.memories(0, 3, 1), x.week(0, 2));
    }

    private static void marked() {
        promise = 18;
        SetAgain x = odd();
        refused("marked", x, x.marked(6), x.marked(0), x.marked(4), x.marked(5));
        Made.fill(x, 0, 0);
        due("half of 1 is 0", x.marked(0), 60);
        x.mend(0, 9, 5);
        x.mend(1, 9, 4);
        x.mend(2, 9, 0);
        due("3 of 5, 2 of 4", x.marked(0), 100);
    }

    private static void chairs() {
        promise = 19;
        SetAgain x = odd();
        refused("chairs", x, x.chairs(6, 1, -1), x.chairs(0, 1, -1), x.chairs(4, 1, -1), x.chairs(5, 1, -1));
        int[] bad = {-1, 0, 4, 9, 10, 14, 30, 31, -9, Integer.MIN_VALUE};
        for (int pc : bad) due("pc " + pc, x.chairs(0, pc, -1), -1);
        due("no sitter", x.chairs(0, 1, 1), -1);
        due("sitter -2", x.chairs(0, 1, -2), -1);
        x.sitter(40, 1);
        x.sitter(12, 1);
        x.sitter(60, 1);
        x.sitter(42, 1);
        Made.fill(x, 0, 1, 2, 2, 4, 0);
        due("one chair", x.chairs(0, 1, -1), 30 + 4 + 32);
        due("one chair", x.chairs(0, 1, 4), 0);
        due("two chairs", x.chairs(0, 2, -1), 2 + 4);
        due("0 sits on 0", x.chairs(0, 2, 0), 0);
        due("1 sits on 1", x.chairs(0, 2, 1), 1);
        due("2 sits on 0", x.chairs(0, 2, 2), 0);
        due("3 does not sit", x.chairs(0, 2, 3), -2);
        due("4 sits on 1", x.chairs(0, 2, 4), 1);
        due("three chairs", x.chairs(0, 3, -1), 2);
        due("three chairs", x.chairs(0, 3, 1), 1);
        due("three chairs", x.chairs(0, 3, 2), 2);
        due("three chairs", x.chairs(0, 3, 4), 1);
        SetAgain y = Made.with(10, 8, 20, 8, 30, 8);
        Made.fill(y, 0, 2, 1, 0);
        due("two of three", y.chairs(0, 2, -1), 80);
        due("of like ones the first: 0 with 1", y.chairs(0, 2, 1), 0);
        due("of like ones the first: 2 alone", y.chairs(0, 2, 2), 1);
        y = Made.with(60, 8, 0, 8);
        Made.fill(y, 0, 0, 1);
        due("at 60 and 0", y.chairs(0, 2, -1), 0);
        x.mend(0, 8, 3);
        due("slips are left out", x.chairs(0, 3, -1), 2);
        x.mend(1, 1, 10);
        due("another part", x.chairs(0, 11, -1), 0 + 4 + 32);
    }

    private static void wilful() {
        promise = 20;
        SetAgain x = odd();
        due("no shelf", x.wilful(6, 0, 0), -2000000000);
        due("nothing", x.wilful(0, 0, 0), -2000000000);
        due("a desk", x.wilful(4, 0, 0), -2000000000);
        due("shorts", x.wilful(5, 0, 0), -2000000000);
        x.sitter(50, 8);
        x.mend(0, 9, 2);
        x.mend(1, 8, 1);
        Made.fill(x, 0, 0, 1, 0);
        due("no sitter", x.wilful(0, 2, 0), -2000000000);
        due("no sitter", x.wilful(0, -1, 0), -2000000000);
        due("61", x.wilful(0, 0, 61), -2000000000);
        due("-1", x.wilful(0, 0, -1), -2000000000);
        // Twice 10 turns to 0 (at 2, 1, 1); the second turns 50 instead of 40, and 41 of part 1, which had slipped.
        due("to 0", x.wilful(0, 0, 0), 2 * (20 + 10 + 10) + 20 + 9 + 10);
        x.mend(1, 8, 0);
        due("to what the other wants: 40 there, none by it, 40 at last", x.wilful(0, 0, 50), 4 * 40);
        x.mend(1, 3, 0);
        x.mend(1, 4, 0);
        due("the other leaves it as the first wants it", x.wilful(0, 1, 10), 0);
        x.mend(0, 3, 0);
        x.mend(0, 4, 0);
        x.mend(0, 6, 60);
        due("who sets nothing turns 20 each, spares 20 each by that", x.wilful(0, 0, 50), 0);
        due("week as ever", x.week(0, 2), 80);
        due("one who does not sit", Made.with(5, 5).wilful(0, 0, 5), -2000000000);
    }

    private static void who() {
        promise = 21;
        SetAgain x = odd();
        refused("who", x, x.who(6, 0, 0), x.who(0, 0, 0), x.who(4, 0, 0), x.who(5, 0, 0));
        due("no part", x.who(0, 3, 0), -1);
        due("k -1", x.who(0, 0, -1), -1);
        due("k 12", x.who(0, 0, 12), -1);
        x.sitter(20, 8);
        x.mend(0, 8, 1);
        Made.fill(x, 0, -1, 19, 18, -1, 30);
        due("a later one is looked at", x.who(0, 0, 4), 0);
        due("it cannot be so", x.who(0, 0, 0), 0);
        Made.fill(x, 0, -1, 19, 18, -1);
        due("any", x.who(0, 0, 0), 1 | 2 | 256);
        due("the second, or he at first and nobody: 18", x.who(0, 0, 1), 2);
        due("nobody", x.who(0, 0, 2), 256);
        due("any", x.who(0, 0, 3), 1 | 2 | 256);
        due("no such shift", x.who(0, 0, 4), -1);
        Made.fill(x, 0, -1, 18);
        due("he must have sat", x.who(0, 0, 0), 2);
        x.mend(1, 6, 3);
        Made.fill(x, 0, 19, 18, 17);
        due("set", x.who(0, 0, 0), 2);
        due("near, or nobody", x.who(0, 0, 1), 2 | 256);
        due("near, or nobody", x.who(0, 0, 2), 2 | 256);
        Made.fill(x, 0, -2);
        due("-2", x.who(0, 0, 0), 0);
        Made.fill(x, 0, 61);
        due("61", x.who(0, 0, 0), 0);
        int[] row = new int[13];
        java.util.Arrays.fill(row, -1);
        row[12] = 60;
        Made.fill(x, 0, row);
        due("12 shifts at most", x.who(0, 0, 11), 1 | 2 | 256);
        due("another part does not slip", with60().who(0, 1, 0), 1 | 256);
    }

    private static SetAgain with60() {
        SetAgain x = Made.with(60, 1, 20, 1);
        x.set(1, 60);
        Made.fill(x, 0, 60);
        return x;
    }

    private static void judge() {
        promise = 22;
        SetAgain x = odd();
        int[] bad = {-1, 6, 60, 9, 100, Integer.MIN_VALUE};
        for (int ws : bad) due("ws " + ws, x.judge(ws, 0), -1);
        due("no part", x.judge(0, 3), -1);
        due("nothing", x.judge(0, 0), -11);
        due("nothing ahead of a desk", x.judge(40, 0), -11);
        due("nothing ahead of a desk", x.judge(4, 0), -11);
        Made.fill(x, 0, 0, -1, 0, 0);
        due("a desk", x.judge(40, 0), -12);
        due("shorts", x.judge(5, 0), -12);
        x.mend(0, 8, 2);
        Made.fill(x, 1, 8, 6, 8, -1, 33);
        due("so, as far as both go", x.judge(1, 0), -2);
        due("another part", x.judge(1, 1), 0);
        Made.fill(x, 1, 8, 6, 7);
        due("the third", x.judge(1, 0), 2);
        Made.fill(x, 1, -1, 5, 7);
        due("the second", x.judge(1, 0), 1);
        Made.fill(x, 1, -2);
        due("-2 is seen", x.judge(1, 0), 0);
        SetAgain y = Made.with(10, 8);
        Made.fill(y, 0, -1, 0);
        Made.fill(y, 1, 30, 10);
        due("from how it stands", y.judge(1, 0), -2);
        due("and again", y.judge(1, 0), -2);
        Made.fill(x, 1);
        due("nothing seen", x.judge(1, 0), -2);
        int[] none = new int[30], seen = new int[30];
        java.util.Arrays.fill(seen, 8);
        seen[21] = 9;
        Made.fill(x, 0, none);
        Made.fill(x, 1, seen);
        due("21 shifts", x.judge(1, 0), -2);
        x.put(1, 20, 9);
        due("the 21st", x.judge(1, 0), 20);
    }

    private static void drawn() {
        promise = 23;
        SetAgain x = odd();
        refused("drawn", x, x.drawn(6, 1, 1, 0), x.drawn(0, 1, 1, 0), x.drawn(4, 1, 1, 0), x.drawn(5, 1, 1, 0));
        due("n 0", x.drawn(0, 1, 0, 0), -1);
        due("n 21", x.drawn(0, 1, 21, 0), -1);
        due("what 2", x.drawn(0, 1, 1, 2), -1);
        x.sitter(50, 8);
        x.mend(0, 7, 12);
        Made.fill(x, 0, 0, -1, 1, 1, 0);
        due("always ill", x.drawn(0, 5, 3, 1), 6);
        due("20 turns of 3 parts each week", x.drawn(0, 5, 3, 0), 180);
        x.mend(0, 7, 0);
        due("never ill", x.drawn(0, 5, 3, 1), 0);
        due("20 + 40 + 40 turns of 3 parts", x.drawn(0, 5, 3, 0), 900);
        due("where it stands is as it was", x.of(0, 11), 30);
        x.mend(0, 7, 5);
        x.mend(1, 7, 5);
        int z = -77, ill = 0;
        for (int i = 0; i < 4 * 20; i++) {
            z = z * 1103515245 + 12345;
            if ((z >>> 8) % 12 < 5) ill++;
        }
        due("by draws", x.drawn(0, -77, 20, 1), ill);
        Made.fill(x, 0);
        due("no shifts", x.drawn(0, 5, 20, 0), 0);
    }

    private static void sit() {
        promise = 24;
        SetAgain x = Made.with(10, 2, 14, 1);
        due("no sitter", x.sit(2), -1);
        due("no sitter", x.sit(-1), -1);
        x.mend(0, 9, 5);
        x.mend(0, 8, 3);
        x.mend(1, 6, 4);
        due("first", x.sit(0), 140);
        due("nothing slips", x.of(0, 11), 10);
        due("near: 4 lost by each", x.sit(1), 12);
        due("stands", x.of(2, 11), 10);
        x.mend(1, 6, 3);
        due("not near: 4 turns", x.sit(1), 28);
        due("stands", x.of(2, 11), 14);
    }

    private static void setAndNight() {
        promise = 25;
        SetAgain x = new SetAgain();
        due("61", x.set(0, 61), -1);
        due("-1", x.set(0, -1), -1);
        due("part 3", x.set(3, 5), -1);
        due("part -1", x.set(-1, 5), -1);
        x.mend(1, 9, 7);
        due("turns, whatever they cost", x.set(1, 2), 28);
        due("up", x.set(1, 5), 3);
        due("as it is", x.set(1, 5), 0);
        due("stands", x.of(1, 11), 5);
        promise = 26;
        due("none slips", x.night(), 0);
        x.mend(1, 8, 3);
        x.mend(2, 8, 1);
        due("two", x.night(), 2);
        due("stands", x.of(1, 11), 2);
        due("two", x.night(), 2);
        due("0 at least", x.of(1, 11), 0);
        due("one, as the other stands at 0", x.night(), 1);
        due("stands", x.of(0, 11), 30);
        due("stands", x.of(2, 11), 27);
    }

    private static void led() {
        promise = 27;
        SetAgain x = Made.with(10, 2, 50, 1);
        due("what -1", x.led(-1), -1);
        due("what 5", x.led(5), -1);
        x.set(0, 10);
        x.mend(0, 6, 60);
        x.mend(2, 9, 2);
        due("lost 40 twice", x.sit(0), 80);
        x.sit(1);
        x.set(0, 30);
        x.set(1, 30);
        x.set(2, 30);
        x.night();
        due("shifts", x.led(0), 2);
        due("turns", x.led(1), 20 + 80 + 60);
        due("losses", x.led(2), 80);
        due("dearest", x.led(3), 40 + 20 + 40);
        due("its sitter", x.led(4), 1);
        x.mend(0, 0, 45);
        x.mend(0, 1, 40);
        x.mend(0, 2, 5);
        due("as dear", x.sit(0), 2 * (15 + 10 + 25));
        due("the first such", x.led(4), 1);
        x.mend(0, 2, 4);
        due("dearer", x.sit(0), 102);
        due("dearest", x.led(3), 102);
        due("its sitter", x.led(4), 0);
        SetAgain y = Made.with(30, 1, 30, 1);
        y.sit(1);
        due("a shift that cost nothing", y.led(3), 0);
        due("is the first such", y.led(4), 1);
        y.sit(0);
        due("is the first such", y.led(4), 1);
    }

    private static void images() {
        promise = 28;
        SetAgain x = Made.with(10, 2, 50, 1);
        due("none sat", x.image(), 0);
        x.sit(0);
        due("one", x.image(), 1);
        x.mend(0, 0, 11);
        x.sit(1);
        x.set(2, 7);
        promise = 29;
        due("back", x.back(), 1);
        due("stands", x.of(0, 11), 10);
        due("stands", x.of(2, 11), 10);
        due("shifts", x.led(0), 1);
        due("turns", x.led(1), 60);
        due("dearest", x.led(3), 60);
        due("its sitter", x.led(4), 0);
        due("what was mended stays", x.of(0, 0), 11);
        x.sit(1);
        due("back again", x.back(), 1);
        due("stands", x.of(1, 11), 10);
        due("none", new SetAgain().back(), -5);
    }

    private static void undone() {
        promise = 30;
        SetAgain x = Made.with(10, 2, 50, 1);
        due("none", x.undo(), -5);
        x.mend(0, 0, 10);
        due("the same number is none", x.undo(), -5);
        x.mend(0, 0, 11);
        x.mend(1, 7, 3);
        x.mend(2, 8, 1);
        x.mend(1, 9, 4);
        x.mend(0, 10, 8);
        x.mend(0, 0, 12);
        due("undone", x.undo(), 5);
        due("want", x.of(0, 0), 11);
        due("undone", x.undo(), 4);
        due("fetch", x.of(0, 10), 3);
        due("undone", x.undo(), 3);
        due("price", x.of(1, 9), 1);
        due("undone", x.undo(), 2);
        due("slips", x.of(2, 8), 0);
        promise = 31;
        due("redone", x.redo(), 3);
        due("slips", x.of(2, 8), 1);
        x.mend(2, 8, 1);
        x.sitter(5, 5);
        x.set(0, 5);
        due("no change came behind", x.redo(), 2);
        due("price", x.of(1, 9), 4);
        x.mend(1, 9, 5);
        due("another came behind", x.redo(), -5);
        due("price", x.of(1, 9), 5);
        due("count", x.count(2), 5);
        promise = 30;
        for (int i = 1; i <= 45; i++) x.mend(0, 1, i);
        due("40 at most", x.count(2), 40);
        for (int i = 39; i >= 0; i--) due("undo", x.undo(), i);
        due("none", x.undo(), -5);
        due("the 5 first stay (10 was as it is)", x.of(0, 1), 5);
        promise = 31;
        for (int i = 39; i >= 0; i--) due("redo", x.redo(), i);
        due("none", x.redo(), -5);
        due("all again", x.of(0, 1), 45);
        unlikeChanges();
    }

    /** 44 changes of two numbers by turns: the 40 latest go back and forth one by one. */
    private static void unlikeChanges() {
        SetAgain x = Made.with(0, 2, 50, 1);
        for (int i = 1; i <= 44; i++) x.mend(0, i % 2, i);
        for (int i = 44; i > 4; i--) {
            due("undo", x.undo(), i - 5);
            due("its number", x.of(0, i % 2), i - 2);
        }
        for (int i = 5; i <= 44; i++) {
            due("redo", x.redo(), 44 - i);
            due("its number", x.of(0, i % 2), i);
        }
    }

    private static void bodies() {
        promise = 32;
        SetAgain x = new SetAgain();
        due("kind -1", x.body(-1), -1);
        due("kind 8", x.body(8), -1);
        for (int i = 0; i < 50; i++) due("body", x.body(i % 8), i);
        due("full", x.body(0), -3);
        due("bad ahead of full", x.body(8), -1);
    }

    private static void acts() {
        promise = 33;
        SetAgain x = new SetAgain();
        x.body(0);
        for (int kind = 0; kind < 8; kind++) x.body(kind);
        // Desk 1 + kind, x 5: sets, sits, slips, tells.
        int[][] due = {
            {6, 12, 4, 12 - 0},
            {10, 20, 7, 20 - 3},
            {8, -16, 6, -16 - 2},
            {9, -20, 3, -20 - 15},
            {13, 26, 0 - 10, 26 - (4 - 10)},
            {11, -24, 9, (-24 - 21) ^ 5},
            {24, 48, 2, 48 - 6},
            {16, 32 + (10 - 13), 13 - 13, 29 - (9 - 13) - 1},
        };
        for (int kind = 0; kind < 8; kind++) {
            for (int act = 0; act < 4; act++) due("kind " + kind + " act " + act, x.act(1 + kind, act, 5), due[kind][act]);
        }
        due("wraps", x.act(1, 1, Integer.MAX_VALUE), 0);
        promise = 34;
        x.act(8, 3, 5);
        int[] trace = {81, 2, 80, 10, 20, 1, 50, 11, 20, 1, 50, 11, 20, 1};
        for (int i = 0; i < trace.length; i++) due("trace " + i, x.trace(i), trace[i]);
        due("behind it", x.trace(trace.length), -1);
        due("-1", x.trace(-1), -1);
        due("all", x.count(4), trace.length);
        x.act(6, 3, 5);
        int[] room = {60, 2, 41, 30, 10, 1, 40, 11};
        for (int i = 0; i < room.length; i++) due("trace " + i, x.trace(i), room[i]);
        due("all", x.count(4), room.length);
        promise = 33;
        due("no desk", x.act(9, 0, 5), 0);
        due("no trace then", x.count(4), 0);
        due("no trace then", x.trace(0), -1);
        x.act(1, 0, 5);
        due("no act", x.act(1, 4, 5), 0);
        due("no trace then", x.count(4), 0);
        due("no act", x.act(1, -1, 5), 0);
        due("no desk", x.act(-1, 0, 5), 0);
    }

    private static void keep() {
        promise = 35;
        SetAgain x = new SetAgain();
        due("no such desk", x.keep(0, 0), -1);
        due("nothing", x.keep(0, -1), 1);
        due("-2", x.keep(0, -2), -1);
        x.body(3);
        due("a desk", x.keep(5, 0), 1);
        due("it is there", x.taken(5, 0), 3);
        due("shelf 6", x.keep(6, 0), -1);
        due("shelf -1", x.keep(-1, 0), -1);
        due("nothing", x.keep(5, -1), 1);
        due("it is not there", x.taken(5, 0), -11);
        Made.fill(x, 0, 1);
        x.keep(0, -1);
        due("no row either", x.put(0, 0, 1), -11);
    }

    private static void row() {
        promise = 36;
        SetAgain x = new SetAgain();
        due("shelf", x.row(6, 0, 1), -1);
        due("shelf", x.row(-1, 0, 1), -1);
        due("sort", x.row(0, 5, 1), -1);
        due("sort", x.row(0, -1, 1), -1);
        due("61", x.row(0, 0, 61), -1);
        due("-1", x.row(0, 0, -1), -14);
        due("bad ahead of -14", x.row(0, 5, -1), -1);
        due("nothing is there", x.put(0, 0, 0), -11);
        due("60", x.row(0, 0, 60), 1);
        due("the last", x.put(0, 59, 3), 1);
        due("refused", x.row(0, 0, -1), -14);
        due("it stays", x.element(0, 59), 3);
        due("anew", x.row(0, 0, 60), 1);
        due("is 0", x.element(0, 59), 0);
        due("0", x.row(0, 3, 0), 1);
        due("no place", x.put(0, 0, 0), -13);
    }

    private static void putAndElement() {
        promise = 37;
        SetAgain x = odd();
        long v = 0x123456789ABCDEF0L;
        long[] kept = {(byte) 0xF0, (short) 0xDEF0, 0x9ABCDEF0, v, 1};
        for (int sort = 0; sort < 5; sort++) {
            x.row(0, sort, 2);
            due("put", x.put(0, 1, v), 1);
            due("kept " + sort, x.element(0, 1), kept[sort]);
            due("the other", x.element(0, 0), 0);
            x.put(0, 1, 256L << 32);
            due("kept " + sort, x.element(0, 1), sort == 3 ? 256L << 32 : sort == 4 ? 1 : 0);
            x.put(0, 1, 0);
            due("0 " + sort, x.element(0, 1), 0);
        }
        due("shelf", x.put(6, 0, 1), -1);
        due("nothing", x.put(1, 0, 1), -11);
        due("a desk", x.put(4, 0, 1), -12);
        due("place -1", x.put(0, -1, 1), -13);
        due("place 2", x.put(0, 2, 1), -13);
        promise = 38;
        due("shelf", x.element(6, 0), Long.MIN_VALUE);
        due("shelf", x.element(-1, 0), Long.MIN_VALUE);
        due("nothing", x.element(1, 0), Long.MIN_VALUE);
        due("a desk", x.element(4, 0), Long.MIN_VALUE);
        due("place -1", x.element(0, -1), Long.MIN_VALUE);
        due("place 2", x.element(0, 2), Long.MIN_VALUE);
    }

    private static void shift() {
        promise = 39;
        SetAgain x = odd();
        Made.fill(x, 0, 1, 2, 3, 4, 5);
        Made.fill(x, 1, 0, 0, 0);
        due("shelf", x.shift(6, 0, 0, 0, 1), -1);
        due("shelf", x.shift(0, 0, -1, 0, 1), -1);
        due("nothing", x.shift(2, 0, 0, 0, 1), -11);
        due("nothing", x.shift(0, 0, 2, 0, 1), -11);
        due("nothing ahead of a desk", x.shift(4, 0, 2, 0, 1), -11);
        due("a desk", x.shift(4, 0, 0, 0, 1), -12);
        due("desks", x.shift(4, 0, 4, 0, 1), -12);
        due("unlike sorts", x.shift(0, 0, 5, 0, 1), -12);
        int[][] places = {{-1, 0, 1}, {0, -1, 1}, {0, 0, -1}, {0, 0, 4}, {5, 0, 1}, {3, 0, 3}, {0, 3, 1}, {0, 2, 2}, {6, 0, 0},
            {1, 0, Integer.MAX_VALUE}, {Integer.MAX_VALUE, 0, 1}, {0, Integer.MAX_VALUE, 1}};
        for (int[] p : places) due("place", x.shift(0, p[0], 1, p[1], p[2]), -13);
        due("none", x.shift(0, 5, 1, 3, 0), 0);
        due("two", x.shift(0, 3, 1, 1, 2), 2);
        due("0", x.element(1, 0), 0);
        due("4", x.element(1, 1), 4);
        due("5", x.element(1, 2), 5);
        due("up in itself", x.shift(0, 0, 0, 1, 4), 4);
        int[] up = {1, 1, 2, 3, 4};
        for (int i = 0; i < 5; i++) due("up", x.element(0, i), up[i]);
        due("down in itself", x.shift(0, 2, 0, 0, 3), 3);
        int[] down = {2, 3, 4, 3, 4};
        for (int i = 0; i < 5; i++) due("down", x.element(0, i), down[i]);
    }

    private static void taken() {
        promise = 40;
        SetAgain x = odd();
        due("shelf", x.taken(6, 0), -1);
        due("kind -1", x.taken(0, -1), -1);
        due("kind 8", x.taken(0, 8), -1);
        due("nothing", x.taken(0, 0), -11);
        due("a row", x.taken(5, 0), -12);
        String[] under = {"0", "01", "02", "023", "014", "0235", "06", "0147"};
        for (int kind = 0; kind < 8; kind++) {
            x.keep(0, x.body(kind));
            for (int k = 0; k < 8; k++) {
                due(kind + " for " + k, x.taken(0, k), under[kind].indexOf('0' + k) >= 0 ? kind : -12);
            }
        }
    }

    private static void count() {
        promise = 41;
        SetAgain x = odd();
        due("what -1", x.count(-1), -1);
        due("what 5", x.count(5), -1);
        x.sitter(1, 1);
        x.feed(3);
        x.feed(3);
        x.feed(3);
        x.mend(0, 0, 1);
        x.mend(0, 0, 2);
        x.mend(0, 0, 3);
        x.mend(0, 0, 4);
        x.undo();
        x.body(4);
        x.body(4);
        x.body(4);
        x.body(4);
        x.act(4, 1, 7);
        due("sitters", x.count(0), 2);
        due("bytes", x.count(1), 3);
        due("changes", x.count(2), 3);
        due("bodies", x.count(3), 5);
        due("ran: 10 20 1", x.count(4), 3);
    }
}
