import java.util.ArrayDeque;
import java.util.ArrayList;
import java.util.Arrays;
import java.util.Deque;
import java.util.HashMap;
import java.util.List;
import java.util.Map;

/** The document's words worked out the long way, for ModelTest to compare SetAgain with. */
final class Model {
    static final int BAD = -1, NOT = -2, FULL = -3, STATE = -5, VOID = -2000000000;

    static final class Sitter {
        final int[] n = {30, 30, 30, 1, 1, 8, 0, 0};
    }

    record Change(int number, int what, int before, int after) { }

    final List<Sitter> sitters = new ArrayList<>();
    int[] stands = {30, 30, 30}, slips = {0, 0, 0}, prices = {1, 1, 1};
    int fetch = 3;
    final StringBuilder tape = new StringBuilder();
    String law = null;
    final Object[] shelves = new Object[6];
    final List<ModelDesks.Desk> desks = new ArrayList<>();
    final Deque<Change> undo = new ArrayDeque<>(), redo = new ArrayDeque<>();
    int shifts, turns, losses, dearest, dearestSitter = NOT;
    int[] image = null;

    // ---- sitters, parts

    int sitter(int v, int hours) {
        if (v < 0 || v > 60 || hours < 1 || hours > 12) return BAD;
        if (sitters.size() == 8) return FULL;
        Sitter s = new Sitter();
        Arrays.fill(s.n, 0, 3, v);
        s.n[5] = hours;
        sitters.add(s);
        return sitters.size() - 1;
    }

    int sitters(int shelf, int i, int n) {
        if (shelf < 0 || shelf > 5 || n < 1 || n > 8) return BAD;
        if (shelves[shelf] != null && !(shelves[shelf] instanceof byte[])) return -12;
        int came = 0;
        try {
            byte[] row = (byte[]) shelves[shelf];
            for (int k = 0; k < n; k++) {
                int a = row[i + 4 * k], b = row[i + 4 * k + 1], c = row[i + 4 * k + 2], h = row[i + 4 * k + 3];
                if (Math.min(a, Math.min(b, c)) < 0 || Math.max(a, Math.max(b, c)) > 60) break;
                if (sitter(a, h) < 0) break;
                sitters.get(sitters.size() - 1).n[1] = b;
                sitters.get(sitters.size() - 1).n[2] = c;
                came++;
            }
        } catch (NullPointerException | ArrayIndexOutOfBoundsException ended) {
            return came;
        }
        return came;
    }

    int of(int number, int what) {
        if (number < 0) return BAD;
        if (what >= 0 && what <= 7) return number < sitters.size() ? sitters.get(number).n[what] : BAD;
        if (what == 10) return number == 0 ? fetch : BAD;
        if (number > 2) return BAD;
        if (what == 8) return slips[number];
        if (what == 9) return prices[number];
        return what == 11 ? stands[number] : BAD;
    }

    private void tell(int number, int what, int v) {
        if (what <= 7) sitters.get(number).n[what] = v;
        if (what == 8) slips[number] = v;
        if (what == 9) prices[number] = v;
        if (what == 10) fetch = v;
    }

    int mend(int number, int what, int v) {
        int was = what == 11 ? BAD : of(number, what);
        if (was < 0) return BAD;
        int most = switch (what) {
            case 3, 4, 9 -> 9;
            case 5, 7 -> 12;
            case 8 -> 3;
            case 10 -> 99;
            default -> 60;
        };
        if (v < (what == 5 ? 1 : 0) || v > most) return BAD;
        if (was != v) {
            undo.addLast(new Change(number, what, was, v));
            if (undo.size() > 40) undo.removeFirst();
            redo.clear();
            tell(number, what, v);
        }
        return was;
    }

    int undo() {
        if (undo.isEmpty()) return STATE;
        Change c = undo.removeLast();
        redo.addLast(c);
        tell(c.number, c.what, c.before);
        return undo.size();
    }

    int redo() {
        if (redo.isEmpty()) return STATE;
        Change c = redo.removeLast();
        undo.addLast(c);
        tell(c.number, c.what, c.after);
        return redo.size();
    }

    int feed(int letter) {
        if (letter < 0 || letter > 255) return BAD;
        if (tape.length() == 120) return FULL;
        tape.append((char) letter);
        return tape.length();
    }

    int law() {
        String text = tape.toString();
        tape.setLength(0);
        int fault = ModelLaw.fault(text);
        if (fault >= 0) return -100 - fault;
        law = text;
        return 1;
    }

    // ---- one part

    int lose(int s, int part, int v) {
        if (s < 0) return 0;
        int[] n = sitters.get(s).n;
        int want = n[part];
        if (law == null) return v > want ? (v - want) * n[3] * n[5] : (want - v) * n[4] * n[5];
        int[] names = {Math.abs(v - want), v > want ? 1 : 0, v, want, n[5], part};
        int loss = ModelLaw.value(law, names);
        return loss < 0 ? 0 : loss > 9999 ? 9999 : loss;
    }

    int loss(int sitter, int part, int v) {
        if (sitter < 0 || sitter >= sitters.size() || part < 0 || part > 2 || v < 0 || v > 60) return BAD;
        return lose(sitter, part, v);
    }

    private int refusal(int shelf) {
        return shelves[shelf] == null ? -11 : shelves[shelf] instanceof byte[] ? 0 : -12;
    }

    private boolean wrong(int shelf, int part) {
        return shelf < 0 || shelf > 5 || part < 0 || part > 2;
    }

    private int[] read(int shelf) {
        byte[] row = (byte[]) shelves[shelf];
        int[] week = new int[Math.min(21, row.length)];
        for (int i = 0; i < week.length; i++) week[i] = row[i] >= 0 && row[i] < sitters.size() ? row[i] : -1;
        return week;
    }

    private int still(int[] week, int part, int v) {
        int all = 0;
        for (int s : week) all += lose(s, part, v);
        return all;
    }

    private boolean empty(int[] week) {
        return Arrays.stream(week).allMatch(s -> s < 0);
    }

    int never(int shelf, int part, int v) {
        if (wrong(shelf, part) || v < 0 || v > 60) return BAD;
        return refusal(shelf) != 0 ? refusal(shelf) : still(read(shelf), part, v);
    }

    int best(int shelf, int part, int what) {
        if (wrong(shelf, part) || what < 0 || what > 3) return BAD;
        if (refusal(shelf) != 0) return refusal(shelf);
        int[] week = read(shelf);
        if (empty(week)) return NOT;
        int at = -1, least = Integer.MAX_VALUE;
        for (int v = 60; v >= 0; v--) {
            int here = 0;
            for (int s : week) here = what < 2 ? here + lose(s, part, v) : Math.max(here, lose(s, part, v));
            if (here <= least) {
                least = here;
                at = v;
            }
        }
        return what == 0 || what == 2 ? at : least;
    }

    int middle(int shelf, int part) {
        if (wrong(shelf, part)) return BAD;
        if (refusal(shelf) != 0) return refusal(shelf);
        List<int[]> sit = new ArrayList<>();
        int all = 0;
        for (int s : read(shelf)) {
            if (s < 0) continue;
            int[] n = sitters.get(s).n;
            sit.add(new int[] {n[part], n[5] * (n[3] + n[4])});
            all += n[5] * (n[3] + n[4]);
        }
        if (sit.isEmpty()) return NOT;
        sit.sort((a, b) -> a[0] - b[0]);
        int sum = 0;
        for (int[] one : sit) {
            sum += one[1];
            if (2 * sum >= all) return one[0];
        }
        throw new IllegalStateException();
    }

    private int slip(int part, int v) {
        return Math.max(0, v - slips[part]);
    }

    private List<Integer> path(Map<Integer, List<Integer>> known, int[] week, int part, int i, int at) {
        if (i == week.length) return List.of(0);
        List<Integer> best = known.get(i * 100 + at);
        if (best != null) return best;
        for (int v = 0; v <= 60; v++) {
            List<Integer> rest = path(known, week, part, i + 1, slip(part, v));
            int cost = Math.abs(at - v) * prices[part] + lose(week[i], part, v) + rest.get(0);
            if (best == null || cost < best.get(0)) {
                best = new ArrayList<>();
                best.add(cost);
                best.add(v);
                best.addAll(rest.subList(1, rest.size()));
            }
        }
        known.put(i * 100 + at, best);
        return best;
    }

    int shifts(int shelf, int part, int k) {
        if (wrong(shelf, part) || k < -1) return BAD;
        if (refusal(shelf) != 0) return refusal(shelf);
        int[] week = read(shelf);
        if (k >= week.length) return NOT;
        return path(new HashMap<>(), week, part, 0, stands[part]).get(k + 1);
    }

    int once(int shelf, int part, int what) {
        if (wrong(shelf, part) || what < 0 || what > 2) return BAD;
        if (refusal(shelf) != 0) return refusal(shelf);
        int[] week = read(shelf);
        int[] best = null;
        for (int at = -1; at < week.length; at++) {
            for (int v = 0; v <= (at < 0 ? 0 : 60); v++) {
                int stand = stands[part], all = 0;
                for (int i = 0; i < week.length; i++) {
                    if (i == at) {
                        all += Math.abs(stand - v) * prices[part];
                        stand = v;
                    }
                    all += lose(week[i], part, stand);
                    stand = slip(part, stand);
                }
                if (best == null || all < best[0]) best = new int[] {all, at < 0 ? NOT : at, at < 0 ? NOT : v};
            }
        }
        return best[what];
    }

    // ---- habits

    /** A week by habits: stands behind it, turns, losses, costs; ahead of these what may be unlike. */
    final class Lived {
        int[] at = stands.clone();
        int[] price = prices.clone();
        int turns, losses, costs, memory, wilful = -1, wish, tried = -1, near;

        void shift(int s) {
            if (s >= 0) come(s);
            for (int p = 0; p < 3; p++) at[p] = slip(p, at[p]);
        }

        int turn(int p, int v) {
            int far = Math.abs(at[p] - v);
            at[p] = v;
            turns += far;
            return far * price[p];
        }

        void come(int s) {
            int[] n = sitters.get(s).n;
            for (int p = 0; p < 3; p++) {
                int off = Math.abs(at[p] - n[p]);
                int cost = off > (s == tried ? near : n[6]) ? turn(p, n[p]) : 0;
                costs += (memory >> s & 1) == 1 ? Math.min(cost, fetch) : cost;
            }
            for (int p = 0; p < 3; p++) losses += lose(s, p, at[p]);
            for (int p = 0; p < 3; p++) costs += lose(s, p, at[p]);
            if (s == wilful) for (int p = 0; p < 3; p++) costs += turn(p, wish);
        }

        Lived over(int[] week) {
            for (int s : week) shift(s);
            return this;
        }
    }

    int week(int shelf, int what) {
        if (wrong(shelf, 0) || what < 0 || what > 2) return BAD;
        if (refusal(shelf) != 0) return refusal(shelf);
        Lived l = new Lived().over(read(shelf));
        return new int[] {l.turns, l.losses, l.costs}[what];
    }

    int stands(int shelf, int part, int k) {
        if (wrong(shelf, part) || k < 0) return BAD;
        if (refusal(shelf) != 0) return refusal(shelf);
        int[] week = read(shelf);
        return k > week.length ? BAD : new Lived().over(Arrays.copyOf(week, k)).at[part];
    }

    int pays(int shelf, int sitter, int what) {
        if (wrong(shelf, 0) || sitter < 0 || sitter >= sitters.size() || what < 0 || what > 1) return BAD;
        if (refusal(shelf) != 0) return refusal(shelf);
        int[] best = null;
        for (int near = 0; near <= 60; near++) {
            Lived l = new Lived();
            l.tried = sitter;
            l.near = near;
            l.over(read(shelf));
            if (best == null || l.costs < best[1]) best = new int[] {near, l.costs};
        }
        return best[what];
    }

    int memories(int shelf, int m, int what) {
        if (wrong(shelf, 0) || m < 0 || m > 3 || what < 0 || what > 1) return BAD;
        if (refusal(shelf) != 0) return refusal(shelf);
        int[] best = null;
        for (int size = 0; size <= m; size++) {
            for (int bits = 0; bits < 1 << sitters.size(); bits++) {
                if (Integer.bitCount(bits) != size) continue;
                Lived l = new Lived();
                l.memory = bits;
                l.over(read(shelf));
                if (best == null || l.costs < best[1]) best = new int[] {bits, l.costs};
            }
        }
        return best[what];
    }

    int marked(int shelf) {
        if (wrong(shelf, 0)) return BAD;
        if (refusal(shelf) != 0) return refusal(shelf);
        Lived cheap = new Lived();
        for (int p = 0; p < 3; p++) cheap.price[p] /= 2;
        return new Lived().over(read(shelf)).costs - cheap.over(read(shelf)).costs;
    }

    int chairs(int shelf, int pc, int sitter) {
        if (pc < 0 || wrong(shelf, pc / 10) || pc % 10 < 1 || pc % 10 > 3) return BAD;
        if (sitter < -1 || sitter >= sitters.size()) return BAD;
        if (refusal(shelf) != 0) return refusal(shelf);
        int[] week = read(shelf), sit = Arrays.stream(week).filter(s -> s >= 0).distinct().sorted().toArray();
        int part = pc / 10, c = pc % 10;
        int[][] lost = new int[8][61];
        for (int s : week) if (s >= 0) for (int v = 0; v <= 60; v++) lost[s][v] += lose(s, part, v);
        int least = Integer.MAX_VALUE;
        int[] chosen = null;
        int[] on = new int[sit.length];
        while (true) {
            int all = 0;
            for (int chair = 0; chair < c; chair++) {
                int one = Integer.MAX_VALUE;
                for (int v = 0; v <= 60; v++) {
                    int sum = 0;
                    for (int i = 0; i < sit.length; i++) sum += on[i] == chair ? lost[sit[i]][v] : 0;
                    one = Math.min(one, sum);
                }
                all += one;
            }
            if (all < least) {
                least = all;
                chosen = on.clone();
            }
            int i = sit.length - 1;
            while (i >= 0 && on[i] == c - 1) on[i--] = 0;
            if (i < 0) break;
            on[i]++;
        }
        if (sitter < 0) return least;
        int i = Arrays.binarySearch(sit, sitter);
        return i < 0 ? NOT : chosen[i];
    }

    int wilful(int shelf, int sitter, int v) {
        if (wrong(shelf, 0) || sitter < 0 || sitter >= sitters.size() || v < 0 || v > 60) return VOID;
        if (refusal(shelf) != 0) return VOID;
        Lived l = new Lived();
        l.wilful = sitter;
        l.wish = v;
        return l.over(read(shelf)).costs - new Lived().over(read(shelf)).costs;
    }

    // ---- what was seen, draws

    private int behind(int part, int v, int s) {
        if (s >= 0 && Math.abs(v - sitters.get(s).n[part]) > sitters.get(s).n[6]) v = sitters.get(s).n[part];
        return slip(part, v);
    }

    private boolean goesOn(Map<Integer, Boolean> known, byte[] row, int part, int i, int at) {
        if (i == Math.min(12, row.length)) return true;
        if (known.containsKey(i * 100 + at)) return known.get(i * 100 + at);
        boolean can = false;
        for (int s = -1; s < sitters.size(); s++) {
            int to = behind(part, at, s);
            if (row[i] == -1 || row[i] == to) can |= goesOn(known, row, part, i + 1, to);
        }
        known.put(i * 100 + at, can);
        return can;
    }

    int who(int shelf, int part, int k) {
        if (wrong(shelf, part) || k < 0 || k > 11) return BAD;
        if (refusal(shelf) != 0) return refusal(shelf);
        byte[] row = (byte[]) shelves[shelf];
        if (k >= row.length) return BAD;
        boolean[] here = new boolean[61];
        here[stands[part]] = true;
        int bits = 0;
        for (int i = 0; i <= k; i++) {
            boolean[] next = new boolean[61];
            for (int at = 0; at <= 60; at++) {
                for (int s = -1; here[at] && s < sitters.size(); s++) {
                    int to = behind(part, at, s);
                    if (row[i] != -1 && row[i] != to) continue;
                    next[to] = true;
                    if (i == k && goesOn(new HashMap<>(), row, part, i + 1, to)) bits |= s < 0 ? 256 : 1 << s;
                }
            }
            here = next;
        }
        return bits;
    }

    int judge(int ws, int part) {
        if (ws < 0 || wrong(ws / 10, part) || wrong(ws % 10, part)) return BAD;
        int a = refusal(ws / 10), b = refusal(ws % 10);
        if (a == -11 || b == -11) return -11;
        if (a != 0 || b != 0) return -12;
        int[] week = read(ws / 10);
        byte[] row = (byte[]) shelves[ws % 10];
        Lived l = new Lived();
        for (int i = 0; i < week.length && i < row.length; i++) {
            l.shift(week[i]);
            if (row[i] != -1 && row[i] != l.at[part]) return i;
        }
        return NOT;
    }

    int drawn(int shelf, int seed, int n, int what) {
        if (wrong(shelf, 0) || n < 1 || n > 20 || what < 0 || what > 1) return BAD;
        if (refusal(shelf) != 0) return refusal(shelf);
        int z = seed, costs = 0, ill = 0;
        for (int w = 0; w < n; w++) {
            int[] week = read(shelf);
            for (int i = 0; i < week.length; i++) {
                if (week[i] < 0) continue;
                z = z * 1103515245 + 12345;
                if ((z >>> 8) % 12 < sitters.get(week[i]).n[7]) {
                    week[i] = -1;
                    ill++;
                }
            }
            costs += new Lived().over(week).costs;
        }
        return what == 0 ? costs : ill;
    }

    // ---- in deed

    int sit(int sitter) {
        if (sitter < 0 || sitter >= sitters.size()) return BAD;
        Lived l = new Lived();
        l.come(sitter);
        stands = l.at;
        if (shifts == 0 || l.costs > dearest) {
            dearest = l.costs;
            dearestSitter = sitter;
        }
        shifts++;
        turns += l.turns;
        losses += l.losses;
        return l.costs;
    }

    int set(int part, int v) {
        if (part < 0 || part > 2 || v < 0 || v > 60) return BAD;
        int far = Math.abs(stands[part] - v);
        stands[part] = v;
        turns += far;
        return far;
    }

    int night() {
        int n = 0;
        for (int p = 0; p < 3; p++) {
            if (stands[p] > 0 && slips[p] > 0) n++;
            stands[p] = slip(p, stands[p]);
        }
        return n;
    }

    int led(int what) {
        return what < 0 || what > 4 ? BAD : new int[] {shifts, turns, losses, dearest, dearestSitter}[what];
    }

    int image() {
        image = new int[] {shifts, turns, losses, dearest, dearestSitter, stands[0], stands[1], stands[2]};
        return shifts;
    }

    int back() {
        if (image == null) return STATE;
        shifts = image[0];
        turns = image[1];
        losses = image[2];
        dearest = image[3];
        dearestSitter = image[4];
        stands = Arrays.copyOfRange(image, 5, 8);
        return shifts;
    }

    // ---- acts, shelves

    private final List<Integer> ran = new ArrayList<>();

    int body(int kind) {
        if (kind < 0 || kind > 7) return BAD;
        if (desks.size() == 50) return FULL;
        desks.add(ModelDesks.of(kind, desks.size(), ran));
        return desks.size() - 1;
    }

    int act(int body, int act, int x) {
        ran.clear();
        if (body < 0 || body >= desks.size() || act < 0 || act > 3) return 0;
        ModelDesks.Desk d = desks.get(body);
        return switch (act) {
            case 0 -> d.sets(x);
            case 1 -> d.sits(x);
            case 2 -> d.slips(x);
            default -> d.tells(x);
        };
    }

    int trace(int i) {
        return i < 0 || i >= Math.min(24, ran.size()) ? BAD : ran.get(i);
    }

    int keep(int shelf, int body) {
        if (wrong(shelf, 0) || body < -1 || body >= desks.size()) return BAD;
        shelves[shelf] = body < 0 ? null : desks.get(body);
        return 1;
    }

    int row(int shelf, int sort, int n) {
        if (wrong(shelf, 0) || sort < 0 || sort > 4 || n > 60) return BAD;
        if (n < 0) return -14;
        shelves[shelf] = switch (sort) {
            case 0 -> new byte[n];
            case 1 -> new short[n];
            case 2 -> new int[n];
            case 3 -> new long[n];
            default -> new boolean[n];
        };
        return 1;
    }

    int put(int shelf, int i, long v) {
        if (wrong(shelf, 0)) return BAD;
        Object o = shelves[shelf];
        try {
            if (o == null) return -11;
            if (o instanceof byte[] a) a[i] = (byte) v;
            else if (o instanceof short[] a) a[i] = (short) v;
            else if (o instanceof int[] a) a[i] = (int) v;
            else if (o instanceof long[] a) a[i] = v;
            else if (o instanceof boolean[] a) a[i] = v != 0;
            else return -12;
        } catch (ArrayIndexOutOfBoundsException e) {
            return -13;
        }
        return 1;
    }

    long element(int shelf, int i) {
        if (wrong(shelf, 0)) return Long.MIN_VALUE;
        Object o = shelves[shelf];
        try {
            if (o instanceof byte[] a) return a[i];
            if (o instanceof short[] a) return a[i];
            if (o instanceof int[] a) return a[i];
            if (o instanceof long[] a) return a[i];
            if (o instanceof boolean[] a) return a[i] ? 1 : 0;
        } catch (ArrayIndexOutOfBoundsException e) {
            return Long.MIN_VALUE;
        }
        return Long.MIN_VALUE;
    }

    @SuppressWarnings("SuspiciousSystemArraycopy")
    int shift(int shelf, int i, int other, int j, int n) {
        if (wrong(shelf, 0) || wrong(other, 0)) return BAD;
        try {
            System.arraycopy(shelves[shelf], i, shelves[other], j, n);
        } catch (NullPointerException e) {
            return -11;
        } catch (ArrayStoreException e) {
            return -12;
        } catch (IndexOutOfBoundsException e) {
            return -13;
        }
        return n;
    }

    int taken(int shelf, int k) {
        if (wrong(shelf, 0) || k < 0 || k > 7) return BAD;
        if (shelves[shelf] == null) return -11;
        if (!ModelDesks.CLASSES[k].isInstance(shelves[shelf])) return -12;
        return Arrays.asList(ModelDesks.CLASSES).indexOf(shelves[shelf].getClass());
    }

    int count(int what) {
        return switch (what) {
            case 0 -> sitters.size();
            case 1 -> tape.length();
            case 2 -> undo.size();
            case 3 -> desks.size();
            case 4 -> ran.size();
            default -> BAD;
        };
    }
}
