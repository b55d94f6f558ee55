/** A chair of several parts that each sitter sets again. The document is ../shared/DOC.md. */
public final class SetAgain {
    public static final int BAD = -1, NOT = -2, FULL = -3, STATE = -5, VOID = -2000000000;

    // The host's refusals.
    private static final int NOTHING = -11, OTHER_KIND = -12, NO_PLACE = -13, BELOW_ZERO = -14;
    // Long.MIN_VALUE, by its number, as the language leaves only functions of Long.
    private static final long NO_ELEMENT = 1L << 63;

    private static final int PARTS = 3, TOP = 60, SETTINGS = TOP + 1, SITTERS = 8;
    private static final int WEEK = 21, SEEN = 12, NOBODY = -1;
    private static final int SHELVES = 6, PLACES = 60, BODIES = 50, KINDS = 8, CHAIRS = 3;

    // What mend() and of() tell of; the wants of parts 0, 1, 2 are ahead of these.
    private static final int UP = 3, DOWN = 4, HOURS = 5, NEAR = 6, ILL = 7;
    private static final int SLIPS = 8, PRICE = 9, FETCH = 10, STANDS = 11;
    private static final int[] LEAST = {0, 0, 0, 0, 0, 1, 0, 0, 0, 0, 0};
    private static final int[] MOST = {60, 60, 60, 9, 9, 12, 60, 12, 3, 9, 99};

    private final Chair chair = new Chair();
    private final Week week = new Week();
    private final Habits habits = new Habits(chair, week);
    private final Still still = new Still(chair, week);
    private final Turning turning = new Turning(chair, week);
    private final Seen seen = new Seen(chair);
    private final Deed deed = new Deed(chair, habits);
    private final Changes changes = new Changes();
    private final Desks desks = new Desks();
    private final Shelf[] shelves = new Shelf[SHELVES];

    public SetAgain() {
        for (int i = 0; i < SHELVES; i++) {
            shelves[i] = new Shelf();
        }
    }

    // ---- sitters, parts

    public int sitter(int v, int hours) {
        if (!isSetting(v) || !fits(HOURS, hours)) {
            return BAD;
        }
        return chair.comes(v, v, v, hours);
    }

    public int sitters(int shelf, int i, int n) {
        if (!isShelf(shelf) || n < 1 || n > SITTERS) {
            return BAD;
        }
        Shelf held = shelves[shelf];
        if (held.sort == Shelf.EMPTY) {
            return 0;
        }
        return held.sort == Shelf.BYTES ? fromRow(held, i, n) : OTHER_KIND;
    }

    public int mend(int number, int what, int v) {
        int place = chair.placeOf(number, what);
        if (place < 0 || !fits(what, v)) {
            return BAD;
        }
        int was = chair.told[place];
        if (was != v) {
            changes.comes(place, was, v);
            chair.becomes(place, v);
        }
        return was;
    }

    public int of(int number, int what) {
        if (what == STANDS) {
            return isPart(number) ? chair.stands[number] : BAD;
        }
        int place = chair.placeOf(number, what);
        return place < 0 ? BAD : chair.told[place];
    }

    public int feed(int letter) {
        return letter < 0 || letter > 255 ? BAD : chair.law.takes(letter);
    }

    public int law() {
        int answer = chair.law.isRead();
        if (answer == 1) {
            chair.forgetAll();
        }
        return answer;
    }

    // ---- one part, never touched, or set at best

    public int loss(int sitter, int part, int v) {
        if (!chair.has(sitter) || !isPart(part) || !isSetting(v)) {
            return BAD;
        }
        return chair.lossAt(sitter, part, v);
    }

    public int never(int shelf, int part, int v) {
        if (!isShelf(shelf) || !isPart(part) || !isSetting(v)) {
            return BAD;
        }
        int refusal = readWeek(shelf);
        return refusal != 0 ? refusal : still.allLosses(part, v);
    }

    public int best(int shelf, int part, int what) {
        if (!isShelf(shelf) || !isPart(part) || what < 0 || what > 3) {
            return BAD;
        }
        int refusal = readWeek(shelf);
        if (refusal != 0) {
            return refusal;
        }
        return week.sat == 0 ? NOT : still.bestOf(part, what);
    }

    public int middle(int shelf, int part) {
        if (!isShelf(shelf) || !isPart(part)) {
            return BAD;
        }
        int refusal = readWeek(shelf);
        if (refusal != 0) {
            return refusal;
        }
        return week.sat == 0 ? NOT : still.middleWant(part);
    }

    public int shifts(int shelf, int part, int k) {
        if (!isShelf(shelf) || !isPart(part) || k < -1) {
            return BAD;
        }
        int refusal = readWeek(shelf);
        if (refusal != 0) {
            return refusal;
        }
        if (k >= week.length) {
            return NOT;
        }
        return turning.shiftByShift(part, k);
    }

    public int once(int shelf, int part, int what) {
        if (!isShelf(shelf) || !isPart(part) || what < 0 || what > 2) {
            return BAD;
        }
        int refusal = readWeek(shelf);
        return refusal != 0 ? refusal : turning.oneTurning(part, what);
    }

    // ---- habits

    public int week(int shelf, int what) {
        if (!isShelf(shelf) || what < 0 || what > 2) {
            return BAD;
        }
        int refusal = readWeek(shelf);
        if (refusal != 0) {
            return refusal;
        }
        habits.live(week.length);
        if (what == 0) {
            return habits.allTurns();
        }
        return what == 1 ? habits.losses : habits.costs;
    }

    public int stands(int shelf, int part, int k) {
        if (!isShelf(shelf) || !isPart(part) || k < 0) {
            return BAD;
        }
        int refusal = readWeek(shelf);
        if (refusal != 0) {
            return refusal;
        }
        // No other bound: only by a week can k be too large.
        if (k > week.length) {
            return BAD;
        }
        habits.live(k);
        return habits.stand[part];
    }

    public int pays(int shelf, int sitter, int what) {
        if (!isShelf(shelf) || !chair.has(sitter) || what < 0 || what > 1) {
            return BAD;
        }
        int refusal = readWeek(shelf);
        return refusal != 0 ? refusal : habits.bestNear(sitter, what);
    }

    public int memories(int shelf, int m, int what) {
        if (!isShelf(shelf) || m < 0 || m > 3 || what < 0 || what > 1) {
            return BAD;
        }
        int refusal = readWeek(shelf);
        return refusal != 0 ? refusal : habits.bestMemories(m, what);
    }

    public int marked(int shelf) {
        if (!isShelf(shelf)) {
            return BAD;
        }
        int refusal = readWeek(shelf);
        return refusal != 0 ? refusal : habits.savedByMarks();
    }

    public int chairs(int shelf, int pc, int sitter) {
        int c = pc % 10;
        if (!isShelf(shelf) || pc < 0 || !isPart(pc / 10) || c < 1 || c > CHAIRS) {
            return BAD;
        }
        if (sitter != -1 && !chair.has(sitter)) {
            return BAD;
        }
        int refusal = readWeek(shelf);
        return refusal != 0 ? refusal : still.parted(pc / 10, c, sitter);
    }

    public int wilful(int shelf, int sitter, int v) {
        if (!isShelf(shelf) || !chair.has(sitter) || !isSetting(v)) {
            return VOID;
        }
        return readWeek(shelf) != 0 ? VOID : habits.moreByWilful(sitter, v);
    }

    // ---- what was seen, draws

    public int who(int shelf, int part, int k) {
        if (!isShelf(shelf) || !isPart(part) || k < 0 || k >= SEEN) {
            return BAD;
        }
        int refusal = refusalOf(shelf);
        if (refusal != 0) {
            return refusal;
        }
        return k < shelves[shelf].length ? seen.mayHaveSat(shelves[shelf], part, k) : BAD;
    }

    public int judge(int ws, int part) {
        int told = ws / 10, row = ws % 10;
        if (ws < 0 || !isShelf(told) || !isShelf(row) || !isPart(part)) {
            return BAD;
        }
        int first = refusalOf(told), second = refusalOf(row);
        if (first == NOTHING || second == NOTHING) {
            return NOTHING;
        }
        if (first != 0 || second != 0) {
            return OTHER_KIND;
        }
        readWeek(told);
        return firstUnlike(shelves[row], part);
    }

    public int drawn(int shelf, int seed, int n, int what) {
        if (!isShelf(shelf) || n < 1 || n > 20 || what < 0 || what > 1) {
            return BAD;
        }
        int refusal = readWeek(shelf);
        if (refusal != 0) {
            return refusal;
        }
        int empty = habits.drawWeeks(seed, n);
        return what == 0 ? habits.costs : empty;
    }

    // ---- in deed

    public int sit(int sitter) {
        return chair.has(sitter) ? deed.comes(sitter) : BAD;
    }

    public int set(int part, int v) {
        return isPart(part) && isSetting(v) ? deed.turns(part, v) : BAD;
    }

    public int night() {
        return deed.allSlip();
    }

    public int led(int what) {
        return what < 0 || what >= Deed.LED ? BAD : deed.told[what];
    }

    public int image() {
        return deed.keepImage();
    }

    public int back() {
        return deed.layBack();
    }

    public int undo() {
        if (changes.done == 0) {
            return STATE;
        }
        changes.done--;
        chair.becomes(changes.places[changes.done], changes.before[changes.done]);
        return changes.done;
    }

    public int redo() {
        if (changes.done >= changes.kept) {
            return STATE;
        }
        chair.becomes(changes.places[changes.done], changes.after[changes.done]);
        changes.done++;
        return changes.kept - changes.done;
    }

    // ---- acts, shelves

    public int body(int kind) {
        return isKind(kind) ? desks.comes(kind) : BAD;
    }

    public int act(int body, int act, int x) {
        return desks.acts(body, act, x);
    }

    public int trace(int i) {
        return i < 0 || i >= Math.min(desks.ran, Desks.TRACE) ? BAD : desks.trace[i];
    }

    public int keep(int shelf, int body) {
        if (!isShelf(shelf) || body < -1 || body >= desks.kept) {
            return BAD;
        }
        shelves[shelf].takesDesk(body);
        return 1;
    }

    public int row(int shelf, int sort, int n) {
        if (!isShelf(shelf) || sort < 0 || sort > Shelf.BOOLEANS || n > PLACES) {
            return BAD;
        }
        if (n < 0) {
            return BELOW_ZERO;
        }
        shelves[shelf].takesRow(sort, n);
        return 1;
    }

    public int put(int shelf, int i, long v) {
        int refusal = refusalAt(shelf, i);
        if (refusal != 0) {
            return refusal;
        }
        shelves[shelf].elements[i] = shelves[shelf].cut(v);
        return 1;
    }

    public long element(int shelf, int i) {
        return refusalAt(shelf, i) != 0 ? NO_ELEMENT : shelves[shelf].elements[i];
    }

    public int shift(int shelf, int i, int other, int j, int n) {
        if (!isShelf(shelf) || !isShelf(other)) {
            return BAD;
        }
        Shelf from = shelves[shelf], to = shelves[other];
        if (from.sort == Shelf.EMPTY || to.sort == Shelf.EMPTY) {
            return NOTHING;
        }
        if (!from.isRow() || from.sort != to.sort) {
            return OTHER_KIND;
        }
        if (!from.hasPlaces(i, n) || !to.hasPlaces(j, n)) {
            return NO_PLACE;
        }
        System.arraycopy(from.elements, i, to.elements, j, n);
        return n;
    }

    public int taken(int shelf, int k) {
        if (!isShelf(shelf) || !isKind(k)) {
            return BAD;
        }
        Shelf held = shelves[shelf];
        if (held.sort == Shelf.EMPTY) {
            return NOTHING;
        }
        return held.sort == Shelf.DESK ? desks.takenFor(held.desk, k) : OTHER_KIND;
    }

    public int count(int what) {
        switch (what) {
            case 0: return chair.sitters;
            case 1: return chair.law.length;
            case 2: return changes.done;
            case 3: return desks.kept;
            case 4: return desks.ran;
            default: return BAD;
        }
    }

    // ---- what the calls share

    private static boolean isPart(int part) {
        return part >= 0 && part < PARTS;
    }

    private static boolean isSetting(int v) {
        return v >= 0 && v <= TOP;
    }

    private static boolean isShelf(int shelf) {
        return shelf >= 0 && shelf < SHELVES;
    }

    private static boolean isKind(int kind) {
        return kind >= 0 && kind < KINDS;
    }

    private static boolean fits(int what, int v) {
        return what >= 0 && what < MOST.length && v >= LEAST[what] && v <= MOST[what];
    }

    /** 0, if a shelf that is there holds a row of bytes. */
    private int refusalOf(int shelf) {
        if (shelves[shelf].sort == Shelf.EMPTY) {
            return NOTHING;
        }
        return shelves[shelf].sort == Shelf.BYTES ? 0 : OTHER_KIND;
    }

    private int readWeek(int shelf) {
        int refusal = refusalOf(shelf);
        if (refusal == 0) {
            week.reads(shelves[shelf], chair.sitters);
        }
        return refusal;
    }

    /** 0, if the shelf holds a row with a place i. */
    private int refusalAt(int shelf, int i) {
        if (!isShelf(shelf)) {
            return BAD;
        }
        Shelf held = shelves[shelf];
        if (held.sort == Shelf.EMPTY) {
            return NOTHING;
        }
        if (!held.isRow()) {
            return OTHER_KIND;
        }
        return held.hasPlaces(i, 1) ? 0 : NO_PLACE;
    }

    private int fromRow(Shelf row, int i, int n) {
        int came = 0;
        for (int at = i; came < n && row.hasPlaces(at, PARTS + 1); at += PARTS + 1) {
            if (!comesFrom(row, at)) {
                return came;
            }
            came++;
        }
        return came;
    }

    private boolean comesFrom(Shelf row, int at) {
        int hours = (int) row.elements[at + PARTS];
        for (int part = 0; part < PARTS; part++) {
            if (!isSetting((int) row.elements[at + part])) {
                return false;
            }
        }
        if (!fits(HOURS, hours)) {
            return false;
        }
        int first = (int) row.elements[at], second = (int) row.elements[at + 1];
        return chair.comes(first, second, (int) row.elements[at + 2], hours) >= 0;
    }

    private int firstUnlike(Shelf row, int part) {
        int shifts = Math.min(week.length, row.length);
        habits.begin();
        for (int i = 0; i < shifts; i++) {
            habits.pass(week.sitters[i]);
            if (row.elements[i] != Seen.UNSEEN && row.elements[i] != habits.stand[part]) {
                return i;
            }
        }
        return NOT;
    }

    /** The parts, those who sit, their numbers, and what they lose. */
    private static final class Chair {
        private static final int NUMBERS = 8, UNKNOWN = -1;
        private static final int SLIPS_AT = SITTERS * NUMBERS, PRICES_AT = SLIPS_AT + PARTS;
        private static final int FETCH_AT = PRICES_AT + PARTS;
        private static final int CELLS = PARTS * SETTINGS, HELD = 9999;

        // One array, so that a change is a place, a number before and one after.
        final int[] told = new int[FETCH_AT + 1];
        final int[] stands = new int[PARTS];
        final Law law = new Law();
        int sitters;
        // A law is long to work out, and most calls ask the same losses often.
        private final int[] lost = new int[SITTERS * CELLS];

        Chair() {
            for (int part = 0; part < PARTS; part++) {
                stands[part] = 30;
                told[PRICES_AT + part] = 1;
            }
            told[FETCH_AT] = 3;
        }

        boolean has(int sitter) {
            return sitter >= 0 && sitter < sitters;
        }

        /** Where a number is kept; -1: there is none such. */
        int placeOf(int number, int what) {
            if (number < 0 || what < 0 || what > FETCH) {
                return -1;
            }
            if (what < SLIPS) {
                return number < sitters ? number * NUMBERS + what : -1;
            }
            if (what == FETCH) {
                return number == 0 ? FETCH_AT : -1;
            }
            if (number >= PARTS) {
                return -1;
            }
            return (what == PRICE ? PRICES_AT : SLIPS_AT) + number;
        }

        int comes(int first, int second, int third, int hours) {
            if (sitters >= SITTERS) {
                return FULL;
            }
            int at = sitters * NUMBERS;
            told[at] = first;
            told[at + 1] = second;
            told[at + 2] = third;
            told[at + UP] = 1;
            told[at + DOWN] = 1;
            told[at + HOURS] = hours;
            forget(sitters);
            sitters++;
            return sitters - 1;
        }

        void becomes(int place, int v) {
            if (place < 0 || place > FETCH_AT) {
                return;
            }
            told[place] = v;
            if (place < SLIPS_AT) {
                forget(place / NUMBERS);
            }
        }

        /** A number of a sitter who is there; its wants are numbers 0, 1, 2. */
        int numberOf(int sitter, int what) {
            return told[sitter * NUMBERS + what];
        }

        int priceOf(int part) {
            return told[PRICES_AT + part];
        }

        int fetch() {
            return told[FETCH_AT];
        }

        int slipped(int part, int v) {
            return Math.max(0, v - told[SLIPS_AT + part]);
        }

        int turned(int sitter, int part, int v, int near) {
            int want = numberOf(sitter, part);
            return Math.abs(v - want) > near ? want : v;
        }

        int lossAt(int sitter, int part, int v) {
            if (sitter == NOBODY) {
                return 0;
            }
            int cell = sitter * CELLS + part * SETTINGS + v;
            if (lost[cell] == UNKNOWN) {
                int want = numberOf(sitter, part), hours = numberOf(sitter, HOURS);
                int rate = numberOf(sitter, v > want ? UP : DOWN);
                int loss = law.holds ? law.valueOf(v, want, hours, part) : Math.abs(v - want) * rate * hours;
                lost[cell] = Math.max(0, Math.min(HELD, loss));
            }
            return lost[cell];
        }

        void forgetAll() {
            for (int sitter = 0; sitter < SITTERS; sitter++) {
                forget(sitter);
            }
        }

        private void forget(int sitter) {
            int end = (sitter + 1) * CELLS;
            for (int cell = sitter * CELLS; cell < end; cell++) {
                lost[cell] = UNKNOWN;
            }
        }
    }

    /** The tape, and the law that a text on it told: signs in the order in which they work. */
    private static final class Law {
        private static final int TAPE = 120, OPEN = 6, DIGITS = 4, END = -1;
        // Numbers stand above all signs; a minus ahead of an operand has a sign of its own.
        private static final int NUMBER = 1000, MINUS = '~';

        final int[] tape = new int[TAPE];
        int length;
        boolean holds;
        private final int[] draft = new int[TAPE + 1];
        private final int[] code = new int[TAPE + 1];
        // One place more than signs, so that the second of two operands has a place too.
        private final int[] stack = new int[TAPE + 2];
        private int at, fault, drafted, coded;

        int takes(int letter) {
            if (length >= TAPE) {
                return FULL;
            }
            tape[length] = letter;
            length++;
            return length;
        }

        int isRead() {
            at = 0;
            fault = -1;
            drafted = 0;
            lines();
            length = 0;
            if (fault >= 0) {
                return -100 - fault;
            }
            System.arraycopy(draft, 0, code, 0, drafted);
            coded = drafted;
            holds = true;
            return 1;
        }

        private void lines() {
            line();
            for (int i = 0; i < TAPE && next() == ';'; i++) {
                at++;
                line();
            }
            if (at < length) {
                fail();
            }
        }

        private void line() {
            either(0);
            if (next() == '?') {
                at++;
                write('?');
                either(0);
            }
            write(';');
        }

        private void either(int open) {
            both(open);
            for (int i = 0; i < TAPE && next() == '|'; i++) {
                at++;
                both(open);
                write('|');
            }
        }

        private void both(int open) {
            compared(open);
            for (int i = 0; i < TAPE && next() == '&'; i++) {
                at++;
                compared(open);
                write('&');
            }
        }

        private void compared(int open) {
            sum(open);
            int sign = next();
            if (sign == '<' || sign == '=' || sign == '>') {
                at++;
                sum(open);
                write(sign);
            }
        }

        private void sum(int open) {
            product(open);
            int sign = next();
            for (int i = 0; i < TAPE && (sign == '+' || sign == '-'); i++) {
                at++;
                product(open);
                write(sign);
                sign = next();
            }
        }

        private void product(int open) {
            operand(open);
            int sign = next();
            for (int i = 0; i < TAPE && (sign == '*' || sign == '/' || sign == '%'); i++) {
                at++;
                operand(open);
                write(sign);
                sign = next();
            }
        }

        private void operand(int open) {
            int sign = next();
            if (isDigit(sign)) {
                number();
            } else if (isName(sign)) {
                at++;
                write(sign);
            } else if (sign != '(' && sign != '!' && sign != '-' || open >= OPEN) {
                fail();
            } else {
                at++;
                opened(sign, open + 1);
            }
        }

        private void opened(int sign, int open) {
            if (sign != '(') {
                operand(open);
                write(sign == '!' ? '!' : MINUS);
                return;
            }
            either(open);
            if (next() == ')') {
                at++;
            } else {
                fail();
            }
        }

        private void number() {
            int v = 0;
            for (int i = 0; i < DIGITS && isDigit(next()); i++) {
                v = v * 10 + next() - '0';
                at++;
            }
            write(NUMBER + v);
        }

        private static boolean isDigit(int sign) {
            return sign >= '0' && sign <= '9';
        }

        private static boolean isName(int sign) {
            return sign == 'd' || sign == 'u' || sign == 's' || sign == 'w' || sign == 'h' || sign == 'k';
        }

        /** Behind a fault the text is as if it had ended, so that reading comes to its end. */
        private int next() {
            return fault < 0 && at < length ? tape[at] : END;
        }

        private void fail() {
            if (fault < 0) {
                fault = at;
            }
        }

        private void write(int sign) {
            if (drafted < draft.length) {
                draft[drafted] = sign;
                drafted++;
            }
        }

        int valueOf(int s, int w, int h, int k) {
            boolean passedBy = false;
            int top = 0;
            for (int i = 0; i < coded; i++) {
                int sign = code[i];
                if (sign == ';' && !passedBy) {
                    return stack[0];
                } else if (sign == ';') {
                    passedBy = false;
                } else if (sign == '?' && !passedBy) {
                    passedBy = stack[0] == 0;
                    top = 0;
                } else if (!passedBy) {
                    top -= operands(sign);
                    if (top < 0 || top + 1 >= stack.length) {
                        return 0;
                    }
                    boolean alone = operands(sign) == 0;
                    stack[top] = alone ? named(sign, s, w, h, k) : worked(sign, stack[top], stack[top + 1]);
                    top++;
                }
            }
            return 0;
        }

        private static int operands(int sign) {
            switch (sign) {
                case '+': case '-': case '*': case '/': case '%':
                case '<': case '=': case '>': case '&': case '|': return 2;
                case '!': case MINUS: return 1;
                default: return 0;
            }
        }

        private static int named(int sign, int s, int w, int h, int k) {
            switch (sign) {
                case 'd': return Math.abs(s - w);
                case 'u': return s > w ? 1 : 0;
                case 's': return s;
                case 'w': return w;
                case 'h': return h;
                case 'k': return k;
                default: return sign - NUMBER;
            }
        }

        private static int worked(int sign, int a, int b) {
            switch (sign) {
                case '+': return a + b;
                case '-': return a - b;
                case '*': return a * b;
                case '/': return b == 0 ? 0 : a / b;
                case '%': return b == 0 ? 0 : a % b;
                case '<': return a < b ? 1 : 0;
                case '=': return a == b ? 1 : 0;
                case '>': return a > b ? 1 : 0;
                case '&': return a != 0 && b != 0 ? 1 : 0;
                case '|': return a != 0 || b != 0 ? 1 : 0;
                case '!': return a == 0 ? 1 : 0;
                default: return -a;
            }
        }
    }

    /** The sitters of a row by shifts. */
    private static final class Week {
        final int[] sitters = new int[WEEK];
        final int[] times = new int[SITTERS];
        int length, sat;

        void reads(Shelf row, int known) {
            length = Math.min(WEEK, row.length);
            sat = 0;
            for (int s = 0; s < SITTERS; s++) {
                times[s] = 0;
            }
            for (int i = 0; i < length; i++) {
                int s = (int) row.elements[i];
                sitters[i] = s >= 0 && s < known ? s : NOBODY;
                if (sitters[i] != NOBODY) {
                    times[s]++;
                    sat++;
                }
            }
        }
    }

    /** Weeks in which each sitter sets what is too far off. */
    private static final class Habits {
        private final Chair chair;
        private final Week week;
        final int[] stand = new int[PARTS];
        final int[] turns = new int[PARTS];
        // What each sitter would not have paid, had it a memory.
        private final int[] spared = new int[SITTERS];
        int losses, costs;
        private int tried = NOBODY, triedNear, leaver = NOBODY, left;

        Habits(Chair chair, Week week) {
            this.chair = chair;
            this.week = week;
        }

        void begin() {
            losses = 0;
            costs = 0;
            for (int part = 0; part < PARTS; part++) {
                turns[part] = 0;
            }
            for (int s = 0; s < SITTERS; s++) {
                spared[s] = 0;
            }
            standAsNow();
        }

        private void standAsNow() {
            for (int part = 0; part < PARTS; part++) {
                stand[part] = chair.stands[part];
            }
        }

        void live(int shifts) {
            begin();
            for (int i = 0; i < shifts; i++) {
                pass(week.sitters[i]);
            }
        }

        void pass(int sitter) {
            if (sitter != NOBODY) {
                comes(sitter);
                if (sitter == leaver) {
                    leaves();
                }
            }
            slip();
        }

        void comes(int sitter) {
            int near = sitter == tried ? triedNear : chair.numberOf(sitter, NEAR);
            for (int part = 0; part < PARTS; part++) {
                int cost = turnTo(part, chair.turned(sitter, part, stand[part], near));
                spared[sitter] += Math.max(0, cost - chair.fetch());
                int loss = chair.lossAt(sitter, part, stand[part]);
                losses += loss;
                costs += loss;
            }
        }

        private void leaves() {
            for (int part = 0; part < PARTS; part++) {
                turnTo(part, left);
            }
        }

        private int turnTo(int part, int v) {
            int far = Math.abs(v - stand[part]), cost = far * chair.priceOf(part);
            turns[part] += far;
            costs += cost;
            stand[part] = v;
            return cost;
        }

        private void slip() {
            for (int part = 0; part < PARTS; part++) {
                stand[part] = chair.slipped(part, stand[part]);
            }
        }

        int allTurns() {
            int all = 0;
            for (int part = 0; part < PARTS; part++) {
                all += turns[part];
            }
            return all;
        }

        int bestNear(int sitter, int what) {
            int best = 0, least = 0;
            tried = sitter;
            for (int near = 0; near <= TOP; near++) {
                triedNear = near;
                live(week.length);
                if (near == 0 || costs < least) {
                    best = near;
                    least = costs;
                }
            }
            tried = NOBODY;
            return what == 0 ? best : least;
        }

        int bestMemories(int m, int what) {
            live(week.length);
            int best = 0, most = 0;
            for (int mask = 1; mask < 1 << chair.sitters; mask++) {
                int few = Integer.bitCount(mask), saved = sparedBy(mask);
                boolean fewer = saved == most && few < Integer.bitCount(best);
                if (few <= m && (saved > most || fewer)) {
                    best = mask;
                    most = saved;
                }
            }
            return what == 0 ? best : costs - most;
        }

        private int sparedBy(int mask) {
            int saved = 0;
            for (int s = 0; s < SITTERS; s++) {
                if ((mask >> s & 1) != 0) {
                    saved += spared[s];
                }
            }
            return saved;
        }

        int savedByMarks() {
            live(week.length);
            int saved = 0;
            for (int part = 0; part < PARTS; part++) {
                int price = chair.priceOf(part);
                saved += turns[part] * (price - price / 2);
            }
            return saved;
        }

        int moreByWilful(int sitter, int v) {
            live(week.length);
            int plain = costs;
            leaver = sitter;
            left = v;
            live(week.length);
            leaver = NOBODY;
            return costs - plain;
        }

        /** How many shifts were empty by illness; the costs of all weeks are kept as of one. */
        int drawWeeks(int seed, int n) {
            int z = seed, empty = 0;
            begin();
            for (int drawn = 0; drawn < n; drawn++) {
                standAsNow();
                for (int i = 0; i < week.length; i++) {
                    int sitter = week.sitters[i];
                    if (sitter != NOBODY) {
                        z = z * 1103515245 + 12345;
                        if ((z >>> 8) % 12 < chair.numberOf(sitter, ILL)) {
                            sitter = NOBODY;
                            empty++;
                        }
                    }
                    pass(sitter);
                }
            }
            return empty;
        }
    }

    /** One part that is never touched, and chairs among which sitters are parted. */
    private static final class Still {
        private final Chair chair;
        private final Week week;
        private final int[] weight = new int[SETTINGS];
        private final boolean[] wanted = new boolean[SETTINGS];
        private final int[] ones = new int[SITTERS];
        // All losses of each group of those that sit at one setting, and the least of them at any; of none always 0.
        private final int[] sums = new int[1 << SITTERS];
        private final int[] leasts = new int[1 << SITTERS];
        private final int[] group = new int[CHAIRS];
        private final int[] bestGroup = new int[CHAIRS];
        private int sitting, free, least;
        private boolean found;

        Still(Chair chair, Week week) {
            this.chair = chair;
            this.week = week;
        }

        int allLosses(int part, int v) {
            int all = 0;
            for (int s = 0; s < SITTERS; s++) {
                if (week.times[s] > 0) {
                    all += week.times[s] * chair.lossAt(s, part, v);
                }
            }
            return all;
        }

        private int worstLoss(int part, int v) {
            int worst = 0;
            for (int s = 0; s < SITTERS; s++) {
                if (week.times[s] > 0) {
                    worst = Math.max(worst, chair.lossAt(s, part, v));
                }
            }
            return worst;
        }

        int bestOf(int part, int what) {
            int best = 0, lowest = 0;
            for (int v = 0; v <= TOP; v++) {
                int here = what < 2 ? allLosses(part, v) : worstLoss(part, v);
                if (v == 0 || here < lowest) {
                    best = v;
                    lowest = here;
                }
            }
            return what % 2 == 0 ? best : lowest;
        }

        int middleWant(int part) {
            int all = weighWants(part), below = 0;
            for (int v = 0; v <= TOP; v++) {
                below += weight[v];
                if (wanted[v] && below * 2 >= all) {
                    return v;
                }
            }
            return NOT;
        }

        private int weighWants(int part) {
            int all = 0;
            for (int v = 0; v <= TOP; v++) {
                weight[v] = 0;
                wanted[v] = false;
            }
            for (int s = 0; s < SITTERS; s++) {
                if (week.times[s] > 0) {
                    int rates = chair.numberOf(s, UP) + chair.numberOf(s, DOWN);
                    int heavy = week.times[s] * chair.numberOf(s, HOURS) * rates;
                    int want = chair.numberOf(s, part);
                    weight[want] += heavy;
                    wanted[want] = true;
                    all += heavy;
                }
            }
            return all;
        }

        int parted(int part, int chairs, int sitter) {
            gather();
            sumGroups(part);
            found = false;
            free = chairs;
            part(0);
            return sitter == -1 ? least : chairOf(sitter);
        }

        private void gather() {
            sitting = 0;
            for (int s = 0; s < SITTERS; s++) {
                if (week.times[s] > 0) {
                    ones[sitting] = s;
                    sitting++;
                }
            }
        }

        private void sumGroups(int part) {
            for (int v = 0; v <= TOP; v++) {
                for (int i = 0; i < sitting; i++) {
                    sumGroupsUpTo(i, week.times[ones[i]] * chair.lossAt(ones[i], part, v), v == 0);
                }
            }
        }

        /** Each group is a lesser one and its last sitter, so that the lesser is always summed already. */
        private void sumGroupsUpTo(int i, int lost, boolean first) {
            for (int mask = 1 << i; mask < 2 << i; mask++) {
                sums[mask] = sums[mask - (1 << i)] + lost;
                leasts[mask] = first ? sums[mask] : Math.min(leasts[mask], sums[mask]);
            }
        }

        /** Chairs are tried from the first on, so that the first of like partings is found first. */
        private void part(int i) {
            if (i >= sitting) {
                weigh();
                return;
            }
            for (int c = 0; c < free; c++) {
                group[c] |= 1 << i;
                part(i + 1);
                group[c] &= ~(1 << i);
                if (group[c] == 0) {
                    return;
                }
            }
        }

        private void weigh() {
            int all = 0;
            for (int c = 0; c < CHAIRS; c++) {
                all += leasts[group[c]];
            }
            if (found && all >= least) {
                return;
            }
            found = true;
            least = all;
            for (int c = 0; c < CHAIRS; c++) {
                bestGroup[c] = group[c];
            }
        }

        private int chairOf(int sitter) {
            for (int i = 0; i < sitting; i++) {
                for (int c = 0; c < CHAIRS; c++) {
                    if (ones[i] == sitter && (bestGroup[c] >> i & 1) != 0) {
                        return c;
                    }
                }
            }
            return NOT;
        }
    }

    /** One part that is set ahead of each shift, or of just one. */
    private static final class Turning {
        private final Chair chair;
        private final Week week;
        // What is still to be paid from each shift on, by where the part stands ahead of it.
        private final int[] ahead = new int[(WEEK + 1) * SETTINGS];

        Turning(Chair chair, Week week) {
            this.chair = chair;
            this.week = week;
        }

        int shiftByShift(int part, int k) {
            pay(part, true);
            int stand = chair.stands[part], setting = 0;
            if (k < 0) {
                return ahead[stand];
            }
            for (int i = 0; i <= k; i++) {
                setting = leastSetting(part, i, stand);
                stand = chair.slipped(part, setting);
            }
            return setting;
        }

        private void pay(int part, boolean eachShift) {
            int end = week.length * SETTINGS;
            for (int v = 0; v <= TOP; v++) {
                ahead[end + v] = 0;
            }
            for (int i = week.length - 1; i >= 0; i--) {
                for (int v = 0; v <= TOP; v++) {
                    ahead[i * SETTINGS + v] = unturned(part, i, v);
                }
                if (eachShift) {
                    spread(i * SETTINGS, chair.priceOf(part));
                }
            }
        }

        private int unturned(int part, int i, int v) {
            int loss = chair.lossAt(week.sitters[i], part, v);
            return loss + ahead[(i + 1) * SETTINGS + chair.slipped(part, v)];
        }

        /** A turn costs the same anywhere, so the best setting is come to turn by turn. */
        private void spread(int at, int price) {
            for (int v = 1; v <= TOP; v++) {
                ahead[at + v] = Math.min(ahead[at + v], ahead[at + v - 1] + price);
            }
            for (int v = TOP - 1; v >= 0; v--) {
                ahead[at + v] = Math.min(ahead[at + v], ahead[at + v + 1] + price);
            }
        }

        private int leastSetting(int part, int i, int stand) {
            int price = chair.priceOf(part), due = ahead[i * SETTINGS + stand];
            for (int v = 0; v <= TOP; v++) {
                if (Math.abs(v - stand) * price + unturned(part, i, v) == due) {
                    return v;
                }
            }
            return stand;
        }

        int oneTurning(int part, int what) {
            pay(part, false);
            int price = chair.priceOf(part), stand = chair.stands[part];
            int least = ahead[stand], which = NOT, setting = NOT, paid = 0;
            for (int i = 0; i < week.length; i++) {
                for (int v = 0; v <= TOP; v++) {
                    int all = paid + Math.abs(v - stand) * price + ahead[i * SETTINGS + v];
                    if (all < least) {
                        least = all;
                        which = i;
                        setting = v;
                    }
                }
                paid += chair.lossAt(week.sitters[i], part, stand);
                stand = chair.slipped(part, stand);
            }
            if (what == 0) {
                return least;
            }
            return what == 1 ? which : setting;
        }
    }

    /** Who may have sat, by how one part stood; settings are bits of a long. */
    private static final class Seen {
        static final int UNSEEN = -1;
        private static final long ALL = (1L << SETTINGS) - 1;
        private final Chair chair;
        private Shelf row;
        private int part;

        Seen(Chair chair) {
            this.chair = chair;
        }

        int mayHaveSat(Shelf seen, int ofPart, int k) {
            row = seen;
            part = ofPart;
            long here = reachedAhead(k), later = fittingBehind(k);
            int bits = 0;
            for (int s = NOBODY; s < chair.sitters; s++) {
                if ((allBehind(here, s) & later) != 0) {
                    bits |= s == NOBODY ? 1 << SITTERS : 1 << s;
                }
            }
            return bits;
        }

        private long reachedAhead(int k) {
            long here = 1L << chair.stands[part];
            for (int i = 0; i < k; i++) {
                long behind = 0;
                for (int s = NOBODY; s < chair.sitters; s++) {
                    behind |= allBehind(here, s);
                }
                here = behind & asSeen(i);
            }
            return here;
        }

        /** Where the part may stand behind shift k, so that this and all later is as seen. */
        private long fittingBehind(int k) {
            long fitting = ALL;
            for (int i = Math.min(SEEN, row.length) - 1; i > k; i--) {
                fitting = allAhead(fitting & asSeen(i));
            }
            return fitting & asSeen(k);
        }

        private long asSeen(int i) {
            long v = row.elements[i];
            if (v == UNSEEN) {
                return ALL;
            }
            return v >= 0 && v <= TOP ? 1L << (int) v : 0;
        }

        private long allBehind(long here, int sitter) {
            long behind = 0;
            for (int v = 0; v <= TOP; v++) {
                if ((here >>> v & 1) != 0) {
                    behind |= 1L << behindShift(sitter, v);
                }
            }
            return behind;
        }

        private long allAhead(long fitting) {
            long fits = 0;
            for (int v = 0; v <= TOP; v++) {
                for (int s = NOBODY; s < chair.sitters; s++) {
                    fits |= (fitting >>> behindShift(s, v) & 1) << v;
                }
            }
            return fits;
        }

        private int behindShift(int sitter, int v) {
            if (sitter == NOBODY) {
                return chair.slipped(part, v);
            }
            return chair.slipped(part, chair.turned(sitter, part, v, chair.numberOf(sitter, NEAR)));
        }
    }

    /** What is done on the chair itself, what is told of it, and an image of both. */
    private static final class Deed {
        static final int LED = 5;
        private static final int SHIFTS = 0, TURNS = 1, LOSSES = 2, DEAREST = 3, ITS_SITTER = 4;
        private final Chair chair;
        private final Habits habits;
        final int[] told = new int[LED];
        private final int[] keptTold = new int[LED];
        private final int[] keptStands = new int[PARTS];
        private boolean kept;

        Deed(Chair chair, Habits habits) {
            this.chair = chair;
            this.habits = habits;
            told[ITS_SITTER] = NOT;
        }

        int comes(int sitter) {
            habits.begin();
            habits.comes(sitter);
            System.arraycopy(habits.stand, 0, chair.stands, 0, PARTS);
            if (told[SHIFTS] == 0 || habits.costs > told[DEAREST]) {
                told[DEAREST] = habits.costs;
                told[ITS_SITTER] = sitter;
            }
            told[SHIFTS]++;
            told[TURNS] += habits.allTurns();
            told[LOSSES] += habits.losses;
            return habits.costs;
        }

        int turns(int part, int v) {
            int far = Math.abs(v - chair.stands[part]);
            chair.stands[part] = v;
            told[TURNS] += far;
            return far;
        }

        /** A part that stands at 0 cannot slip, so it is not counted. */
        int allSlip() {
            int slipped = 0;
            for (int part = 0; part < PARTS; part++) {
                int v = chair.slipped(part, chair.stands[part]);
                if (v != chair.stands[part]) {
                    slipped++;
                }
                chair.stands[part] = v;
            }
            return slipped;
        }

        int keepImage() {
            System.arraycopy(told, 0, keptTold, 0, LED);
            System.arraycopy(chair.stands, 0, keptStands, 0, PARTS);
            kept = true;
            return told[SHIFTS];
        }

        int layBack() {
            if (!kept) {
                return STATE;
            }
            System.arraycopy(keptTold, 0, told, 0, LED);
            System.arraycopy(keptStands, 0, chair.stands, 0, PARTS);
            return told[SHIFTS];
        }
    }

    /** Changes in their order: those done, and behind them those undone. */
    private static final class Changes {
        private static final int KEPT = 40;
        final int[] places = new int[KEPT];
        final int[] before = new int[KEPT];
        final int[] after = new int[KEPT];
        int done, kept;

        void comes(int place, int was, int v) {
            if (done == KEPT) {
                dropOldest();
            }
            places[done] = place;
            before[done] = was;
            after[done] = v;
            done++;
            kept = done;
        }

        private void dropOldest() {
            System.arraycopy(places, 1, places, 0, KEPT - 1);
            System.arraycopy(before, 1, before, 0, KEPT - 1);
            System.arraycopy(after, 1, after, 0, KEPT - 1);
            done--;
        }
    }

    /** Desks, whose acts come from their own kind or from one above. */
    private static final class Desks {
        static final int TRACE = 24;
        private static final int ACTS = 4, DEEP = 40;
        private static final int TO_SET = 0, TO_SIT = 1, TO_SLIP = 2, TO_TELL = 3;
        private static final int[] ABOVE = {-1, 0, 0, 2, 1, 3, 0, 4};
        // The body that each kind has of its own for sets, sits, slips, tells; 0: none.
        private static final int[] OWN = {
            1, 10, 11, 2,
            20, 0, 0, 0,
            0, 30, 0, 0,
            0, 41, 40, 0,
            0, 0, 50, 0,
            0, 0, 0, 60,
            70, 0, 0, 0,
            0, 80, 0, 81,
        };
        private final int[] kinds = new int[BODIES];
        final int[] trace = new int[TRACE];
        int kept, ran;
        private int kind, number;

        int comes(int ofKind) {
            if (kept >= BODIES) {
                return FULL;
            }
            kinds[kept] = ofKind;
            kept++;
            return kept - 1;
        }

        int takenFor(int desk, int k) {
            int above = kinds[desk];
            for (int i = 0; i < KINDS && above >= 0; i++) {
                if (above == k) {
                    return kinds[desk];
                }
                above = ABOVE[above];
            }
            return OTHER_KIND;
        }

        int acts(int desk, int what, int x) {
            ran = 0;
            if (desk < 0 || desk >= kept || what < 0 || what >= ACTS) {
                return 0;
            }
            kind = kinds[desk];
            number = desk;
            return does(kind, what, x, 0);
        }

        private int does(int from, int what, int x, int depth) {
            int owner = ownerOf(from, what);
            if (owner < 0 || depth > DEEP) {
                return 0;
            }
            int ownBody = OWN[owner * ACTS + what];
            if (ran < TRACE) {
                trace[ran] = ownBody;
            }
            ran++;
            return runs(ownBody, ABOVE[owner], x, depth + 1);
        }

        private static int ownerOf(int from, int what) {
            int owner = from;
            for (int i = 0; i < KINDS && owner >= 0; i++) {
                if (OWN[owner * ACTS + what] != 0) {
                    return owner;
                }
                owner = ABOVE[owner];
            }
            return -1;
        }

        private int runs(int ownBody, int above, int x, int depth) {
            switch (ownBody) {
                case 1: return x + number;
                case 2: return does(kind, TO_SIT, x, depth) - does(kind, TO_SLIP, 1, depth);
                case 10: return does(kind, TO_SET, x, depth) * 2;
                case 11: return x ^ number;
                case 20: return does(above, TO_SET, x, depth) + 3;
                case 30: return -does(above, TO_SIT, x, depth);
                case 40: return does(above, TO_SLIP, x, depth) * 3;
                case 41: return does(above, TO_SIT, x + 1, depth);
                case 50: return does(above, TO_SLIP, x, depth) - does(kind, TO_SET, 2, depth);
                case 60: return does(above, TO_TELL, x, depth) ^ 5;
                case 70: return does(above, TO_SET, x, depth) * 2;
                case 80: return does(above, TO_SIT, x, depth) + does(kind, TO_SLIP, 2, depth);
                case 81: return does(above, TO_TELL, x, depth) - 1;
                default: return 0;
            }
        }
    }

    /** Nothing, a desk, or a row, whose elements are kept as longs whatever their sort. */
    private static final class Shelf {
        static final int EMPTY = -1, DESK = -2, BYTES = 0, BOOLEANS = 4;
        private static final int SHORTS = 1, INTS = 2;
        final long[] elements = new long[PLACES];
        int sort = EMPTY, length, desk;

        void takesDesk(int number) {
            sort = number < 0 ? EMPTY : DESK;
            desk = number;
        }

        void takesRow(int ofSort, int n) {
            sort = ofSort;
            length = n;
            for (int i = 0; i < n; i++) {
                elements[i] = 0;
            }
        }

        boolean isRow() {
            return sort >= BYTES;
        }

        boolean hasPlaces(int i, int n) {
            return i >= 0 && n >= 0 && i <= length && n <= length - i;
        }

        long cut(long v) {
            switch (sort) {
                case BYTES: return (byte) v;
                case SHORTS: return (short) v;
                case INTS: return (int) v;
                case BOOLEANS: return v != 0 ? 1 : 0;
                default: return v;
            }
        }
    }
}
