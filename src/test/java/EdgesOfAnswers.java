import java.lang.reflect.Method;
import java.util.ArrayList;
import java.util.Arrays;
import java.util.List;

/** What every refusal has in common: which of several is answered, and that it changes nothing. */
final class EdgesOfAnswers {
    private static final long VOID = -2000000000, NONE = Long.MIN_VALUE;
    // A refusal that is told ahead of another one stands ahead of it.
    private static final List<Long> ORDER = List.of(-1L, -11L, -12L, -13L, -14L);
    // Values of arguments: each with what is answered for it, or 0.
    private static final long[][] SHELF = {{-1, -1}, {6, -1}, {Integer.MAX_VALUE, -1}, {4, -11}, {2, -12}, {3, -12}, {0, 0}};
    private static final long[][] PART = {{-1, -1}, {3, -1}, {1, 0}};
    private static final long[][] SETTING = {{-1, -1}, {61, -1}, {5, 0}};
    private static final long[][] SITTER = {{-1, -1}, {3, -1}, {1, 0}};

    private final Edges edges;
    private List<Long> untouched;

    EdgesOfAnswers(Edges edges) {
        this.edges = edges;
    }

    void run() {
        edges.told(Edges.TERMS, "BAD (-1): no such number, or it is not as said; NOT (-2): as told; FULL (-3); STATE (-5): as told; -11 to -14. VOID is -2000000000.", () -> {
            edges.due("BAD", SetAgain.BAD, -1);
            edges.due("NOT", SetAgain.NOT, -2);
            edges.due("FULL", SetAgain.FULL, -3);
            edges.due("STATE", SetAgain.STATE, -5);
            edges.due("VOID", SetAgain.VOID, -2000000000);
        });
        edges.told(Edges.TERMS, "Answers, of several the one named first:", () -> {
            untouched = all(rich());
            parts();
            weeks();
            seen();
            deed();
            shelves();
        });
        edges.told(Edges.TERMS, "What is answered so changes nothing.", () -> {
            together();
            asked();
            done();
            full();
            none();
        });
        edges.told(Edges.TERMS, "All memory is the class's own.", () -> {
            SetAgain first = rich(), second = new SetAgain(), third = rich();
            second.sitter(1, 1);
            edges.due("one object's calls change no other", same(all(first), all(third)), 1);
            edges.due("nor one that is made later", second.count(0) + second.led(0) + second.count(3), 1);
        });
    }

    // ---- calls by names, and all that can be asked

    private static long call(SetAgain x, String name, long... with) {
        for (Method m : SetAgain.class.getDeclaredMethods()) {
            if (!m.getName().equals(name) || m.getParameterCount() != with.length) continue;
            Object[] args = new Object[with.length];
            for (int i = 0; i < with.length; i++) args[i] = m.getParameterTypes()[i] == long.class ? (Object) with[i] : (Object) (int) with[i];
            try {
                return ((Number) m.invoke(x, args)).longValue();
            } catch (ReflectiveOperationException e) {
                throw new IllegalStateException(name + Arrays.toString(with), e);
            }
        }
        throw new IllegalStateException(name);
    }

    /** Something of everything: 3 sitters, a law, a week on shelf 0, what was seen on 1, a desk on 2, longs on 3, nothing on 4. */
    private static SetAgain rich() {
        SetAgain x = Made.with(10, 8, 40, 6, 25, 3);
        x.mend(1, 6, 4);
        x.mend(2, 3, 7);
        x.mend(0, 7, 5);
        x.mend(1, 8, 2);
        x.mend(2, 9, 6);
        x.mend(0, 10, 8);
        x.mend(0, 1, 12);
        x.undo();
        x.undo();
        Made.laws(x, "d*h+3*u");
        x.feed('d');
        x.feed('+');
        Made.fill(x, 0, 0, 1, 2, -1, 1, 0, 2, 2, 0, 1, 1, 0, 2);
        Made.fill(x, 1, -1, 30, -1, 20, 7, 7, 7, 7, 61, 8, 8, 8, 8);
        x.body(7);
        x.body(3);
        x.body(5);
        x.act(0, 3, 5);
        x.keep(2, 1);
        x.row(3, 3, 4);
        x.put(3, 1, 1L << 40);
        x.row(5, 2, 0);
        x.sit(0);
        x.image();
        x.set(1, 44);
        x.sit(1);
        return x;
    }

    /** What all calls that tell something answer, and then those by which it is told what is kept. */
    private static List<Long> all(SetAgain x) {
        List<Long> told = new ArrayList<>();
        for (int what = -1; what < 6; what++) told.add((long) x.count(what) * 10 + x.led(what));
        for (int s = 0; s < 4; s++) for (int what = 0; what < 12; what++) told.add((long) x.of(s, what));
        for (int i = 0; i < 15; i++) told.add((long) x.trace(i));
        for (int s = 0; s < 6; s++) {
            told.add((long) x.taken(s, 0));
            for (int i = 0; i < 14; i++) told.add(x.element(s, i));
        }
        for (int s = 0; s < 3; s++) for (int v = 20; v < 30; v += 7) told.add((long) x.loss(s, 2, v));
        told.add((long) x.week(0, 2));
        told.add((long) x.undo());
        told.add((long) x.of(1, 8));
        for (int i = 0; i < 8; i++) told.add((long) x.redo() * 1000 + x.of(0, 10) * 10 + x.of(0, 1));
        for (int i = 0; i < 8; i++) told.add((long) x.undo());
        told.add((long) x.back());
        for (int p = 0; p < 3; p++) told.add((long) x.of(p, 11) * 1000 + x.led(p));
        told.add((long) x.feed('7'));
        told.add((long) x.law());
        told.add((long) x.loss(1, 0, 7));
        told.add((long) x.sitter(1, 1));
        told.add((long) x.body(1));
        return told;
    }

    private static int same(List<Long> one, List<Long> other) {
        return one.equals(other) ? 1 : 0;
    }

    // ---- which of several

    /** Each choice of values: the first refusal of those that are due; and all is as it was. */
    private void calls(String name, long[][]... values) {
        int[] at = new int[values.length];
        while (true) {
            long[] with = new long[values.length];
            int first = ORDER.size();
            for (int i = 0; i < values.length; i++) {
                with[i] = values[i][at[i]][0];
                if (values[i][at[i]][1] != 0) first = Math.min(first, ORDER.indexOf(values[i][at[i]][1]));
            }
            if (first < ORDER.size()) refused(name, with, ORDER.get(first));
            int i = 0;
            while (i < at.length && at[i] == values[i].length - 1) at[i++] = 0;
            if (i == at.length) return;
            at[i]++;
        }
    }

    private void refused(String name, long[] with, long due) {
        SetAgain x = rich();
        String told = name + Arrays.toString(with);
        edges.due(told, call(x, name, with), name.equals("wilful") ? VOID : name.equals("element") ? NONE : due);
        edges.due(told + " changes nothing:", same(all(x), untouched), 1);
    }

    private static long[][] bad(long... values) {
        long[][] told = new long[values.length][];
        for (int i = 0; i < values.length; i++) told[i] = new long[] {values[i], -1};
        return told;
    }

    private static long[][] fine(long v) {
        return new long[][] {{v, 0}};
    }

    private static long[][] or(long[][] some, long[][] more) {
        long[][] told = Arrays.copyOf(some, some.length + more.length);
        System.arraycopy(more, 0, told, some.length, more.length);
        return told;
    }

    private static long[][] what(int most) {
        return or(bad(-1, most + 1), fine(0));
    }

    private void parts() {
        calls("sitter", SETTING, or(bad(0, 13), fine(8)));
        calls("sitters", new long[][] {{-1, -1}, {6, -1}, {2, -12}, {3, -12}}, fine(0), or(bad(0, 9, -1), fine(1)));
        calls("mend", SITTER, or(bad(-1, 11), fine(3)), or(bad(-1, 61), fine(5)));
        calls("mend", bad(3, -1), or(fine(8), fine(9)), fine(1));
        calls("mend", fine(2), fine(8), bad(-1, 4));
        calls("mend", fine(2), fine(9), bad(-1, 10));
        calls("mend", bad(1, -1), fine(10), fine(5));
        calls("mend", fine(0), fine(10), bad(-1, 100));
        calls("mend", fine(0), fine(5), bad(0, 13));
        calls("mend", fine(0), fine(7), bad(-1, 13));
        calls("mend", fine(0), fine(4), bad(-1, 10));
        calls("of", SITTER, or(bad(-1, 12), fine(3)));
        calls("feed", bad(-1, 256));
        calls("loss", SITTER, PART, SETTING);
    }

    private void weeks() {
        calls("never", SHELF, PART, SETTING);
        calls("best", SHELF, PART, what(3));
        calls("middle", SHELF, PART);
        calls("shifts", SHELF, PART, or(bad(-2, Integer.MIN_VALUE), fine(99)));
        calls("once", SHELF, PART, what(2));
        calls("week", SHELF, what(2));
        calls("stands", SHELF, PART, or(bad(-1, Integer.MIN_VALUE), fine(13)));
        calls("pays", SHELF, SITTER, what(1));
        calls("memories", SHELF, or(bad(-1, 4), fine(2)), what(1));
        calls("marked", SHELF);
        calls("chairs", SHELF, or(bad(-1, 0, 4, 10, 31), fine(12)), or(bad(-2, 3), fine(-1)));
        calls("wilful", SHELF, SITTER, SETTING);
    }

    private void seen() {
        calls("who", SHELF, PART, or(bad(-1, 12), fine(11)));
        long[][] ws = {{-1, -1}, {6, -1}, {60, -1}, {49, -1}, {64, -1}, {40, -11}, {4, -11}, {42, -11}, {24, -11}, {34, -11}, {20, -12}, {3, -12},
            {23, -12}, {1, 0}};
        calls("judge", ws, PART);
        calls("drawn", SHELF, fine(7), or(bad(0, 21), fine(1)), what(1));
    }

    private void deed() {
        calls("sit", bad(-1, 3, 8));
        calls("set", PART, SETTING);
        calls("led", bad(-1, 5));
        calls("body", bad(-1, 8));
        calls("trace", bad(-1, 14, 24));
        calls("count", bad(-1, 5));
    }

    private void shelves() {
        long[][] shelf = bad(-1, 6);
        calls("keep", or(shelf, fine(0)), or(bad(-2, 3), fine(0)));
        calls("row", or(shelf, fine(0)), or(bad(-1, 5), fine(0)), new long[][] {{61, -1}, {-1, -14}, {Integer.MIN_VALUE, -14}, {5, 0}});
        long[][] holds = {{-1, -1}, {6, -1}, {4, -11}, {2, -12}, {3, 0}};
        long[][] place = {{-1, -13}, {4, -13}, {Integer.MAX_VALUE, -13}, {0, 0}};
        calls("put", holds, place, fine(7));
        calls("element", holds, place);
        calls("taken", new long[][] {{-1, -1}, {6, -1}, {4, -11}, {3, -12}, {2, 0}}, or(bad(-1, 8), fine(2)));
        long[][] from = {{-1, -1}, {6, -1}, {4, -11}, {2, -12}, {3, -12}, {5, -12}, {0, 0}};
        long[][] to = {{-1, -1}, {6, -1}, {4, -11}, {2, -12}, {1, 0}};
        long[][] nowhere = {{-1, -13}, {14, -13}, {0, 0}};
        calls("shift", from, nowhere, to, nowhere, new long[][] {{-1, -13}, {14, -13}, {1, 0}});
    }

    // ---- what changes nothing

    private record Call(String name, long... with) {
        long answer(SetAgain x) {
            return call(x, name, with);
        }

        String told() {
            return name + Arrays.toString(with);
        }
    }

    /** Refusals that hang on more than one argument. */
    private void together() {
        Call[] calls = {new Call("shifts", 0, 0, 13), new Call("stands", 0, 0, 14), new Call("who", 1, 0, 12), new Call("who", 3, 0, 11),
            new Call("sitters", 4, 0, 8), new Call("sitters", 1, 0, 8), new Call("sitters", 0, -1, 8), new Call("chairs", 0, 1, 3),
            new Call("taken", 2, 4)};
        long[] due = {-2, -1, -1, -12, 0, 0, 0, -1, -12};
        for (int i = 0; i < calls.length; i++) {
            SetAgain x = rich();
            edges.due(calls[i].told(), calls[i].answer(x), due[i]);
            edges.due(calls[i].told() + " changes nothing:", same(all(x), untouched), 1);
        }
    }

    /** Questions that are answered change nothing either. */
    private void asked() {
        Call[] calls = {new Call("of", 1, 6), new Call("loss", 1, 0, 5), new Call("never", 0, 0, 5), new Call("best", 0, 0, 2), new Call("middle", 0, 0),
            new Call("shifts", 0, 1, 5), new Call("once", 0, 1, 2), new Call("week", 0, 2), new Call("stands", 0, 1, 5), new Call("pays", 0, 1, 0),
            new Call("memories", 0, 3, 0), new Call("marked", 0), new Call("chairs", 0, 13, 1), new Call("wilful", 0, 1, 60), new Call("who", 1, 0, 3),
            new Call("judge", 1, 0), new Call("drawn", 0, 5, 20, 0), new Call("led", 4), new Call("trace", 3), new Call("element", 3, 1),
            new Call("taken", 2, 2), new Call("count", 4), new Call("shift", 0, 13, 1, 13, 0), new Call("mend", 1, 0, 40), new Call("set", 1, 44),
            new Call("put", 3, 0, 0)};
        for (Call call : calls) {
            SetAgain x = rich();
            call.answer(x);
            edges.due(call.told() + " changes nothing:", same(all(x), untouched), 1);
        }
    }

    /** What is done can be seen by what is compared here. */
    private void done() {
        Call[] calls = {new Call("sitter", 5, 5), new Call("mend", 1, 0, 41), new Call("feed", 'd'), new Call("law"), new Call("sit", 0), new Call("set", 1, 5),
            new Call("night"), new Call("image"), new Call("back"), new Call("undo"), new Call("redo"), new Call("body", 0), new Call("act", 0, 1, 5),
            new Call("act", 3, 0, 5), new Call("keep", 0, 0), new Call("row", 0, 1, 3), new Call("put", 3, 0, 1),
            new Call("shift", 0, 1, 0, 0, 1)};
        for (Call call : calls) {
            SetAgain x = rich();
            call.answer(x);
            edges.due(call.told() + " changes something:", same(all(x), untouched), 0);
        }
    }

    /** All that can be full. */
    private static SetAgain brimming() {
        SetAgain x = new SetAgain();
        for (int i = 0; i < 8; i++) x.sitter(i, 8);
        for (int i = 0; i < 120; i++) x.feed('d');
        for (int i = 0; i < 50; i++) x.body(i % 8);
        return x;
    }

    private void full() {
        String[] names = {"sitter", "feed", "body"};
        long[][] with = {{5, 5}, {'d'}, {3}};
        List<Long> before = all(brimming());
        for (int i = 0; i < names.length; i++) {
            SetAgain x = brimming();
            edges.due(names[i], call(x, names[i], with[i]), -3);
            edges.due(names[i] + " changes nothing:", same(all(x), before), 1);
        }
    }

    private static SetAgain bare() {
        SetAgain x = Made.with(20, 8);
        x.set(0, 7);
        x.sit(0);
        return x;
    }

    private void none() {
        List<Long> before = all(bare());
        for (String name : new String[] {"undo", "redo", "back"}) {
            SetAgain x = bare();
            edges.due(name, call(x, name), -5);
            edges.due(name + " changes nothing:", same(all(x), before), 1);
        }
    }
}
