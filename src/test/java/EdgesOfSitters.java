/** Sitters, parts, the tape and the law: terms 1, promises 1 to 8, sitters from a row. */
final class EdgesOfSitters {
    private final Edges edges;

    EdgesOfSitters(Edges edges) {
        this.edges = edges;
    }

    void run() {
        head();
        parts();
        sitters();
        law();
        fault();
        fromRow();
        promises();
    }

    private void due(String what, long got, long want) {
        edges.due(what, got, want);
    }

    private void head() {
        edges.told(Edges.HEAD, "An object is used for at most 512 calls after it has been made", () -> {
            SetAgain x = Made.with(0, 8, 10, 8, 20, 8, 30, 8, 40, 8, 50, 8, 60, 8, 7, 8);
            Made.fill(x, 0, 0, 1, 2, 3, 4, 5, 6, 7, 0, 1, 2, 3, 4, 5, 6, 7, 0, 1, 2, 3, 4);
            int first = x.chairs(0, 3, -1);
            for (int call = 8 + 22 + 1 + 1; call < 512; call++) due("call " + call, x.chairs(0, 3, -1), first);
            due("the 512th", x.chairs(0, 3, -1), first);
        });
    }

    private void parts() {
        edges.told(Edges.TERMS, "PARTS 0 .. 2: STANDS (0 .. 60; 30 at first),", () -> {
            SetAgain x = new SetAgain();
            edges.each("stands of part", -1, p -> x.of(p, 11), -1, 30, 30, 30, -1);
            edges.each("set of part", -1, p -> x.set(p, 0), -1, 30, 30, 30, -1);
            edges.each("stands of part", 0, p -> x.of(p, 11), 0, 0, 0);
            due("below 0", x.set(1, -1), -1);
            due("as high as can be", x.set(1, 60), 60);
            due("above", x.set(1, 61), -1);
            due("it stays", x.of(1, 11), 60);
        });
        edges.told(Edges.TERMS, "SLIPS (0 .. 3: so many turns down behind each shift, 0 at least; 0 at first),", () -> {
            SetAgain x = new SetAgain();
            edges.each("at first, part", 0, p -> x.of(p, 8), 0, 0, 0);
            due("none by 0", x.night(), 0);
            due("3", x.mend(1, 8, 3), 0);
            due("4", x.mend(1, 8, 4), -1);
            due("-1", x.mend(1, 8, -1), -1);
            Made.fill(x, 0, -1, -1, -1, -1, -1, -1);
            x.set(1, 7);
            edges.each("behind shift", 0, k -> x.stands(0, 1, k), 7, 4, 1, 0, 0, 0, 0);
            due("another part", x.stands(0, 0, 6), 30);
            x.night();
            x.night();
            x.night();
            due("by nights", x.of(1, 11), 0);
            due("from 0", x.night(), 0);
        });
        edges.told(Edges.TERMS, "PRICE of a turn (0 .. 9; 1 at first).", () -> {
            SetAgain x = Made.with(20, 8);
            edges.each("at first, part", 0, p -> x.of(p, 9), 1, 1, 1);
            due("9", x.mend(0, 9, 9), 1);
            due("10", x.mend(0, 9, 10), -1);
            due("-1", x.mend(0, 9, -1), -1);
            due("0", x.mend(1, 9, 0), 1);
            due("10 turns by 9, by 0, by 1", x.sit(0), 90 + 0 + 10);
        });
    }

    private void sitters() {
        edges.told(Edges.TERMS, "SITTERS 0 .. 7, as they come:", () -> {
            SetAgain x = new SetAgain();
            edges.each("comes", 0, v -> x.sitter(v, 8), 0, 1, 2, 3, 4, 5, 6, 7, -3);
            edges.each("wants of", -1, s -> x.of(s, 0), -1, 0, 1, 2, 3, 4, 5, 6, 7, -1);
        });
        edges.told(Edges.TERMS, "WANTS of each PART (0 .. 60; 30 at first),", () -> {
            SetAgain x = Made.with(30, 8);
            edges.each("at first", 0, what -> x.of(0, what), 30, 30, 30);
            edges.each("-1 of", 0, what -> x.mend(0, what, -1), -1, -1, -1);
            edges.each("61 of", 0, what -> x.mend(0, what, 61), -1, -1, -1);
            edges.each("60 of", 0, what -> x.mend(0, what, 60), 30, 30, 30);
            edges.each("0 of", 0, what -> x.mend(0, what, 0), 60, 60, 60);
        });
        edges.told(Edges.TERMS, "UP, DOWN (0 .. 9; 1 at first: what an hour costs by each turn above, below),", () -> {
            SetAgain x = Made.with(30, 2);
            edges.each("at first", 3, what -> x.of(0, what), 1, 1);
            edges.each("-1 of", 3, what -> x.mend(0, what, -1), -1, -1);
            edges.each("10 of", 3, what -> x.mend(0, what, 10), -1, -1);
            due("9", x.mend(0, 3, 9), 1);
            due("0", x.mend(0, 4, 0), 1);
            edges.each("at", 28, v -> x.loss(0, 0, v), 0, 0, 0, 18, 36);
            x.mend(0, 3, 0);
            x.mend(0, 4, 9);
            edges.each("at", 28, v -> x.loss(0, 0, v), 36, 18, 0, 0, 0);
        });
        edges.told(Edges.TERMS, "HOURS (1 .. 12; 8 at first), NEAR (0 .. 60; 0 at first),", () -> {
            SetAgain x = Made.with(30, 8);
            due("hours 0", x.mend(0, 5, 0), -1);
            due("hours 13", x.mend(0, 5, 13), -1);
            due("hours 1", x.mend(0, 5, 1), 8);
            due("hours 12", x.mend(0, 5, 12), 1);
            due("near -1", x.mend(0, 6, -1), -1);
            due("near 61", x.mend(0, 6, 61), -1);
            due("near 60", x.mend(0, 6, 60), 0);
            due("near 0", x.mend(0, 6, 0), 60);
        });
        edges.told(Edges.TERMS, "ILL (0 .. 12; 0 at first: in so many of twelve shifts it does not come).", () -> {
            SetAgain x = Made.with(30, 8);
            due("-1", x.mend(0, 7, -1), -1);
            due("13", x.mend(0, 7, 13), -1);
            Made.fill(x, 0, new int[21]);
            due("by 0 of 12", x.drawn(0, 99, 20, 1), 0);
            for (int ill = 1; ill <= 12; ill++) {
                due("as it was", x.mend(0, 7, ill), ill - 1);
                due("by " + ill + " of 12", x.drawn(0, 99, 20, 1), empty(99, 20 * 21, ill));
            }
            due("by 12 of 12", x.drawn(0, 99, 20, 1), 420);
        });
    }

    private static int empty(int seed, int shifts, int ill) {
        int z = seed, n = 0;
        for (int i = 0; i < shifts; i++) {
            z = z * 1103515245 + 12345;
            if ((z >>> 8) % 12 < ill) n++;
        }
        return n;
    }

    /** What a sitter that wants 20, for 6 hours, loses by part 2 at 23 and at 15, by a law. */
    private void by(String text, int above, int below) {
        SetAgain x = Made.with(20, 6);
        due("«" + text + "»", Made.laws(x, text), 1);
        due("above, by «" + text + "»", x.loss(0, 2, 23), above);
        due("below, by «" + text + "»", x.loss(0, 2, 15), below);
    }

    private void by(String text, int due) {
        by(text, due, due);
    }

    private void noText(String text, int fault) {
        SetAgain x = new SetAgain();
        due("«" + text + "»", Made.laws(x, text), -100 - fault);
    }

    private void law() {
        edges.told(Edges.TERMS, "THE LAW is a TEXT by THE TAPE (at most 120 bytes):", () -> {
            SetAgain x = Made.with(20, 6);
            String text = "1+".repeat(59) + "17";
            for (int i = 0; i < 120; i++) due("byte " + i, x.feed(text.charAt(i)), i + 1);
            due("the 121st", x.feed('1'), -3);
            due("120 stay", x.count(1), 120);
            due("they are a text", x.law(), 1);
            due("59 and 17", x.loss(0, 0, 0), 76);
        });
        edges.told(Edges.TERMS, "LINES, one or more, parted by ; .", () -> {
            noText("", 0);
            noText(";", 0);
            noText("1;", 2);
            noText("1;;2", 2);
            by("1", 1);
            by("0?1;2", 2);
            by("0?1;".repeat(29) + "777", 777);
        });
        edges.told(Edges.TERMS, "LINE: E, or E ? E (what counts if the first is not 0).", () -> {
            by("1?5", 5);
            by("-1?5", 5);
            by("0?5", 0);
            by("1?0;7", 0);
            noText("?5", 0);
            noText("1?", 2);
            noText("1?5?6", 3);
            noText("(1?5)", 2);
        });
        edges.told(Edges.TERMS, "E = A { | A }. A = B { & B }. B = S, or S < S, S = S, S > S. S = P { + P, - P }. P = O { * O, / O, % O }.", () -> {
            by("1|0&0", 1);
            by("0&0|1", 1);
            by("0&1<2", 0);
            by("(0&1)<2", 1);
            by("1|0|0", 1);
            by("1&1&0", 0);
            by("1+1<1+2", 1);
            by("9-3-2", 4);
            by("9-3+2", 8);
            by("2+3*4", 14);
            by("2*3+4", 10);
            by("60/6*2", 20);
            by("60*6/2", 180);
            by("7%4*5", 15);
            by("50/7%4", 3);
            noText("1<2<3", 3);
            noText("1=1=1", 3);
            noText("1>0<1", 3);
            by("(1<2)<3", 1);
            by("1<2&3>2|0=1", 1);
        });
        operands();
        names();
        work();
        held();
    }

    private void operands() {
        edges.told(Edges.TERMS, "O = a number (1 to 4 digits), a NAME, ! O, - O, ( E ).", () -> {
            by("7", 7);
            by("0007", 7);
            by("9999", 9999);
            noText("00007", 4);
            noText("12345", 4);
            noText("1+12345", 6);
            by("!0", 1);
            by("!d", 0, 0);
            by("--3", 3);
            by("-!-3+1", 1);
            by("5--3", 8);
            by("-3+5", 2);
            by("-3*-2", 6);
            by("!0+1", 2);
            by("(1|0)+1", 2);
            noText("()", 1);
            noText("(1", 2);
            noText("1)", 1);
            noText("+1", 0);
            noText("1d", 1);
            noText("d1", 1);
            noText("dh", 1);
            noText("1!", 1);
            noText("1(", 1);
        });
        edges.told(Edges.TERMS, "No blanks.", () -> {
            noText(" d", 0);
            noText("d ", 1);
            noText("d +1", 1);
            noText("d+ 1", 2);
        });
        edges.told(Edges.TERMS, "At most 6 of ( ! - ahead of an O are open at once.", () -> {
            by("((((((5))))))", 5);
            noText("(((((((5)))))))", 6);
            by("!!!!!!5", 1);
            noText("!!!!!!!5", 6);
            by("------5", 5);
            noText("-------5", 6);
            by("(!-(!-5))", 1);
            noText("(!-(!-(5)))", 6);
            noText("(!-(!-!5))", 6);
            by("1?((((((5))))))", 5);
            noText("1?(((((((5)))))))", 8);
            by("((((((1))))))?5", 5);
            by("((((((1))))))|((((((1))))))&((((((1))))))", 1);
            by("0?((((((1))))));((((((7))))))", 7);
            by("((((((1)))))+(((((1))))))", 2);
            by("-----1+----1+------7", 7);
            by("((((-1-1-1+(4)))))+9", 10);
            noText("((((((1))))+(((((1))))))", 16);
            by("(((((d))))-(((((d))))))", 0);
        });
    }

    private void names() {
        edges.told(Edges.TERMS, "NAMES: d how many turns off, u 1 above what is wanted, else 0, s where the PART stands, w what is wanted, h HOURS, k the PART.", () -> {
            by("d", 3, 5);
            by("u", 1, 0);
            by("s", 23, 15);
            by("w", 20);
            by("h", 6);
            by("k", 2);
            noText("x", 0);
            noText("D", 0);
            SetAgain x = Made.with(20, 6);
            Made.laws(x, "100*d+10*u+k");
            due("as it wants it", x.loss(0, 0, 20), 0);
            due("part 1", x.loss(0, 1, 20), 1);
            due("60", x.loss(0, 1, 60), 4011);
            due("0", x.loss(0, 1, 0), 2001);
        });
    }

    private void work() {
        edges.told(Edges.TERMS, "Ints that wrap;", () -> {
            by("9999*9999*9999*9999<0", 9999 * 9999 * 9999 * 9999 < 0 ? 1 : 0);
            by("8192*8192*32<0", 1);
            by("8192*8192*32-1>0", 1);
            by("-(8192*8192*32)<0", 1);
            by("8192*8192*16+8192*8192*16<0", 1);
            by("8192*8192*64+7", 7);
        });
        edges.told(Edges.TERMS, "/ and % toward 0, by 0 they give 0;", () -> {
            by("7/2", 3);
            by("-7/2+9", 6);
            by("7/-2+9", 6);
            by("-7/-2", 3);
            by("7%3", 1);
            by("-7%3+9", 8);
            by("7%-3", 1);
            by("-7%-3+9", 8);
            by("7/0+5", 5);
            by("7%0+5", 5);
            by("0/0+5", 5);
            by("7/(d-d)+3", 3);
            by("8192*8192*32/-1<0", 1);
            by("8192*8192*32%-1+4", 4);
        });
        edges.told(Edges.TERMS, "| & < = > ! give 1, 0;", () -> {
            by("5|0", 1);
            by("0|-5", 1);
            by("0|0", 0);
            by("5&7", 1);
            by("5&0", 0);
            by("0&7", 0);
            by("4<5", 1);
            by("5<5", 0);
            by("5=5", 1);
            by("5=4", 0);
            by("5>4", 1);
            by("5>5", 0);
            by("!5", 0);
            by("!-5", 0);
            by("!0", 1);
            by("!!5", 1);
            by("3+(0|0)", 3);
            by("3+(0&5)", 3);
            by("3+(5&0)", 3);
            by("3+(5<5)", 3);
            by("3+(5=4)", 3);
            by("3+(5>5)", 3);
            by("3+!5", 3);
        });
        edges.told(Edges.TERMS, "all is worked out.", () -> {
            by("1|7/0", 1);
            by("0&7/0", 0);
            by("1?3;7/0", 3);
            by("0?7/0;4", 4);
        });
        edges.told(Edges.TERMS, "The first LINE without a first E, or whose first E is not 0, counts; none: 0.", () -> {
            by("4;5", 4);
            by("1?4;5", 4);
            by("0?4;5", 5);
            by("0?4;0?5", 0);
            by("0?4;0?5;6;7", 6);
            by("0?4;2?5;6", 5);
            by("u?100;d", 100, 5);
            by("0;7", 0);
        });
    }

    private void held() {
        edges.told(Edges.TERMS, "It gives what a SITTER loses in a shift by a PART (held within 0 .. 9999).", () -> {
            by("9999", 9999);
            by("9999+1", 9999);
            by("8192*8192*16", 9999);
            by("8192*8192*32", 0);
            by("-1", 0);
            by("0", 0);
            by("d-4", 0, 1);
            SetAgain x = Made.with(20, 6);
            Made.fill(x, 0, new int[21]);
            Made.laws(x, "9999*d");
            due("21 shifts", x.never(0, 0, 21), 21 * 9999);
            due("three parts by habits", x.week(0, 1), 0);
            x.mend(0, 6, 60);
            due("three parts by habits, near", x.week(0, 1), 3 * 21 * 9999);
        });
        edges.told(Edges.TERMS, "Without a text: d times UP or DOWN times HOURS.", () -> {
            SetAgain x = Made.with(20, 6);
            x.mend(0, 3, 2);
            x.mend(0, 4, 3);
            due("above", x.loss(0, 0, 25), 5 * 2 * 6);
            due("below", x.loss(0, 0, 15), 5 * 3 * 6);
            due("as wanted", x.loss(0, 0, 20), 0);
            due("no text", Made.laws(x, "d+"), -102);
            due("none came", x.loss(0, 0, 25), 5 * 2 * 6);
        });
    }

    private void fault() {
        edges.told(Edges.TERMS, "FAULT: the place (from 0) of the first byte with which no TEXT goes on; the length, if it ends too early.", () -> {
            noText("", 0);
            noText("x1+", 0);
            noText("1x+", 1);
            noText("d*h;x", 4);
            noText("d*h;u?", 6);
            noText("1+", 2);
            noText("1+*", 2);
            noText("(1+2", 4);
            noText("(1+2;3)", 4);
            noText("-", 1);
            noText("1&", 2);
            noText("1&&2", 2);
            noText("1||2", 2);
            noText("1<", 2);
            noText("1<=2", 2);
            noText("1|)", 2);
            noText("d" + (char) 228, 1);
            noText((char) 0 + "", 0);
            noText("1+".repeat(60), 120);
            noText("1+".repeat(59) + "1x", 119);
            noText("-------", 6);
        });
    }

    private void fromRow() {
        edges.told(Edges.TERMS, "SITTERS FROM A ROW of bytes, from a place on: by fours WANTS of PARTS 0, 1, 2, and HOURS: n of them;", () -> {
            SetAgain x = new SetAgain();
            Made.fill(x, 0, 99, 1, 2, 3, 4, 60, 0, 60, 12, 5, 6, 7, 8);
            due("two from place 1 on", x.sitters(0, 1, 2), 2);
            edges.each("of the first", 0, what -> x.of(0, what), 1, 2, 3, 1, 1, 4, 0, 0);
            edges.each("of the second", 0, what -> x.of(1, what), 60, 0, 60, 1, 1, 12, 0, 0);
            due("no third", x.count(0), 2);
        });
        edges.told(Edges.TERMS, "it ends where the row is missing, ends (within a four, too), one is not so, or SITTERS are FULL: those ahead came.", () -> {
            SetAgain x = new SetAgain();
            due("missing", x.sitters(0, 0, 8), 0);
            Made.fill(x, 0);
            due("of 0", x.sitters(0, 0, 8), 0);
            Made.fill(x, 0, 1, 2, 3);
            due("of 3", x.sitters(0, 0, 8), 0);
            Made.fill(x, 0, 1, 2, 3, 4, 5, 6, 7, 8);
            due("ends behind two", x.sitters(0, 0, 8), 2);
            for (int more = 1; more < 4; more++) {
                SetAgain y = new SetAgain();
                Made.fill(y, 0, java.util.Arrays.copyOf(new int[] {1, 2, 3, 4, 5, 6, 7, 8}, 4 + more));
                due("ends within the second four, " + more, y.sitters(0, 0, 8), 1);
                due("those ahead came", y.count(0), 1);
            }
            SetAgain shorter = new SetAgain();
            Made.fill(shorter, 0, 9, 9, 9, 9, 9, 9, 9, 9);
            Made.fill(shorter, 1, 1, 1, 1, 1, 2, 2, 2);
            shorter.row(0, 0, 7);
            shorter.shift(1, 0, 0, 0, 7);
            due("within a four, where a longer row was", shorter.sitters(0, 0, 8), 1);
            due("from its end on", x.sitters(0, 8, 1), 0);
            due("behind its end", x.sitters(0, 9, 1), 0);
            due("far behind its end", x.sitters(0, Integer.MAX_VALUE, 1), 0);
            due("far ahead", x.sitters(0, Integer.MIN_VALUE, 1), 0);
            notSo();
            full();
        });
    }

    private void notSo() {
        int[][] fours = {{61, 1, 1, 1}, {1, 61, 1, 1}, {1, 1, 61, 1}, {-1, 1, 1, 1}, {1, -1, 1, 1}, {1, 1, -1, 1}, {1, 1, 1, 0}, {1, 1, 1, 13},
            {1, 1, 1, -1}, {127, 1, 1, 1}, {-128, 1, 1, 1}};
        for (int[] four : fours) {
            SetAgain x = new SetAgain();
            Made.fill(x, 0, 9, 9, 9, 9, four[0], four[1], four[2], four[3], 8, 8, 8, 8);
            due("not so: " + java.util.Arrays.toString(four), x.sitters(0, 0, 8), 1);
            due("those ahead came", x.count(0), 1);
        }
    }

    private void full() {
        SetAgain x = Made.with(1, 1, 2, 2, 3, 3, 4, 4, 5, 5, 6, 6);
        Made.fill(x, 0, 7, 7, 7, 7, 8, 8, 8, 8, 9, 9, 9, 9);
        due("until full", x.sitters(0, 0, 3), 2);
        due("those ahead came", x.of(7, 1), 8);
        due("full", x.sitters(0, 0, 3), 0);
        due("full", x.count(0), 8);
    }

    private void promises() {
        edges.told(1, "Nobody sits.", () -> {
            SetAgain x = new SetAgain();
            due("sitters", x.count(0), 0);
            due("sit", x.sit(0), -1);
            due("loss", x.loss(0, 0, 30), -1);
            due("shifts", x.led(0), 0);
            due("dearest sitter", x.led(4), -2);
        });
        edges.told(2, "A SITTER who WANTS all PARTS at v, of HOURS: its number. BAD, FULL: 8.", () -> {
            SetAgain x = new SetAgain();
            due("v -1", x.sitter(-1, 8), -1);
            due("v 61", x.sitter(61, 8), -1);
            due("hours 0", x.sitter(0, 0), -1);
            due("hours 13", x.sitter(0, 13), -1);
            due("v 0", x.sitter(0, 1), 0);
            due("v 60", x.sitter(60, 12), 1);
            edges.each("of", 0, what -> x.of(1, what), 60, 60, 60, 1, 1, 12, 0, 0);
            for (int i = 2; i < 8; i++) due("comes", x.sitter(5, 5), i);
            due("full", x.sitter(5, 5), -3);
            due("bad ahead of full", x.sitter(5, 0), -1);
            due("bad ahead of full", x.sitter(-1, 5), -1);
        });
        edges.told(3, "SITTERS FROM A ROW on a SHELF, from place i on, n (1 .. 8) of them: how many came.", () -> {
            SetAgain x = new SetAgain();
            int[] row = new int[40];
            java.util.Arrays.fill(row, 5);
            Made.fill(x, 5, row);
            due("n 0", x.sitters(5, 0, 0), -1);
            due("n -1", x.sitters(5, 0, -1), -1);
            due("n 9", x.sitters(5, 0, 9), -1);
            due("n 1", x.sitters(5, 0, 1), 1);
            due("from place 36 on", x.sitters(5, 36, 8), 1);
            due("n 8", new SetAgain().sitters(5, 0, 8), 0);
            SetAgain y = new SetAgain();
            Made.fill(y, 5, row);
            due("n 8", y.sitters(5, 0, 8), 8);
        });
        edges.told(3, "BAD, -12 (no ROW of bytes; a SHELF that holds nothing is missing).", () -> {
            SetAgain x = new SetAgain();
            x.body(0);
            x.keep(0, 0);
            due("shelf -1", x.sitters(-1, 0, 1), -1);
            due("shelf 6", x.sitters(6, 0, 1), -1);
            due("a desk", x.sitters(0, 0, 1), -12);
            due("bad ahead of -12", x.sitters(0, 0, 9), -1);
            for (int sort = 1; sort <= 4; sort++) {
                x.row(1, sort, 8);
                due("sort " + sort, x.sitters(1, 0, 1), -12);
                due("from nowhere, sort " + sort, x.sitters(1, -1, 1), -12);
            }
            due("nothing", x.sitters(2, 0, 1), 0);
        });
        mended();
        taped();
        edges.told(8, "LOSS of a SITTER by a PART at a setting (0 .. 60). BAD.", () -> {
            SetAgain x = Made.with(20, 6, 50, 2);
            edges.each("part", -1, p -> x.loss(1, p, 60), -1, 20, 20, 20, -1);
            edges.each("sitter", -1, s -> x.loss(s, 0, 30), -1, 60, 40, -1);
            due("setting -1", x.loss(0, 0, -1), -1);
            due("setting 0", x.loss(0, 0, 0), 120);
            due("setting 60", x.loss(0, 0, 60), 240);
            due("setting 61", x.loss(0, 0, 61), -1);
        });
    }

    private void mended() {
        edges.told(4, "WANTS of PART 0, 1, 2 (what 0, 1, 2), UP (3), DOWN (4), HOURS (5), NEAR (6), ILL (7) of a SITTER; SLIPS (8), PRICE (9) of a PART; FETCH (10; number 0) becomes v: what it was. BAD.", () -> {
            SetAgain x = Made.with(20, 6, 50, 2);
            edges.each("was", 0, what -> x.mend(1, what, what + 1), 50, 50, 50, 1, 1, 2, 0, 0);
            edges.each("is", 0, what -> x.of(1, what), 1, 2, 3, 4, 5, 6, 7, 8);
            edges.each("of the other", 0, what -> x.of(0, what), 20, 20, 20, 1, 1, 6, 0, 0);
            edges.each("sitter -1", 0, what -> x.mend(-1, what, 1), -1, -1, -1, -1, -1, -1, -1, -1, -1, -1, -1);
            edges.each("number 2", 0, what -> x.mend(2, what, 1), -1, -1, -1, -1, -1, -1, -1, -1, 0, 1, -1);
            edges.each("number 3", 0, what -> x.mend(3, what, 1), -1, -1, -1, -1, -1, -1, -1, -1, -1, -1, -1);
            due("fetch 100", x.mend(0, 10, 100), -1);
            due("fetch -1", x.mend(0, 10, -1), -1);
            due("fetch 99", x.mend(0, 10, 99), 3);
            due("fetch 0", x.mend(0, 10, 0), 99);
            due("fetch of 1", x.mend(1, 10, 5), -1);
            due("what -1", x.mend(0, -1, 5), -1);
            due("what 11", x.mend(0, 11, 5), -1);
            due("what it stands at stays", x.of(0, 11), 30);
        });
        edges.told(5, "As of mend() (0 to 10); of a PART 11 how it STANDS. BAD.", () -> {
            SetAgain x = Made.with(20, 6);
            x.mend(2, 8, 3);
            x.mend(1, 9, 7);
            x.set(2, 9);
            edges.each("of 0,", -1, what -> x.of(0, what), -1, 20, 20, 20, 1, 1, 6, 0, 0, 0, 1, 3, 30, -1);
            edges.each("of 1,", -1, what -> x.of(1, what), -1, -1, -1, -1, -1, -1, -1, -1, -1, 0, 7, -1, 30, -1);
            edges.each("of 2,", -1, what -> x.of(2, what), -1, -1, -1, -1, -1, -1, -1, -1, -1, 3, 1, -1, 9, -1);
            edges.each("of 3,", -1, what -> x.of(3, what), -1, -1, -1, -1, -1, -1, -1, -1, -1, -1, -1, -1, -1, -1);
            edges.each("of -1,", -1, what -> x.of(-1, what), -1, -1, -1, -1, -1, -1, -1, -1, -1, -1, -1, -1, -1, -1);
        });
    }

    private void taped() {
        edges.told(6, "A byte (0 .. 255) comes to THE TAPE: how many it has. BAD, FULL (120).", () -> {
            SetAgain x = new SetAgain();
            due("-1", x.feed(-1), -1);
            due("256", x.feed(256), -1);
            due("0", x.feed(0), 1);
            due("255", x.feed(255), 2);
            for (int i = 3; i <= 120; i++) due("byte " + i, x.feed('d'), i);
            due("full", x.feed('d'), -3);
            due("bad ahead of full", x.feed(256), -1);
            due("bad ahead of full", x.feed(-1), -1);
            due("120 stay", x.count(1), 120);
        });
        edges.told(7, "THE TAPE becomes THE LAW: 1; -100 less its FAULT; THE TAPE is empty then.", () -> {
            SetAgain x = Made.with(20, 6);
            due("nothing on it", x.law(), -100);
            due("a law", Made.laws(x, "d+7"), 1);
            due("empty then", x.count(1), 0);
            due("it counts at once", x.loss(0, 0, 25), 12);
            due("none on it again", x.law(), -100);
            due("the law stays", x.loss(0, 0, 25), 12);
            due("another", Made.laws(x, "w"), 1);
            due("it counts instead", x.loss(0, 0, 25), 20);
            due("a fault at its first byte", Made.laws(x, "+"), -100);
            due("empty then", x.count(1), 0);
            due("a fault at 3", Made.laws(x, "1+2+"), -104);
            due("and the law stays", x.loss(0, 0, 25), 20);
            x.mend(0, 0, 9);
            due("by what it wants now", x.loss(0, 0, 25), 9);
            x.undo();
            due("and again", x.loss(0, 0, 25), 20);
        });
    }
}
