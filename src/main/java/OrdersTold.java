import java.util.Arrays;

/** A machine told once as texts of orders, and all that follows from the telling alone. */
public final class OrdersTold {
    public static final int BAD = -1, NOT = -2, FULL = -3, NONE = -4, STOP = -5, NULL = -11, CAST = -12, INDEX = -13, SIZE = -14;

    private static final int PLACES = 64;
    private static final int MOST_ORDERS = 20;
    private static final int MOST_ITEMS = 30;

    // Targets and operands: a field's letter, z, p, MEMORY at a field (AT and the field), NUMBER and the number.
    private static final int D = 0, S = 1, T = 2, I = 3, Z = 4, P = 5, AT = 6, NUMBER = 16;

    // Stores told as bits; those of d, s, t are 1, 2, 4.
    private static final int BIT_Z = 8, BIT_P = 16, BIT_MEMORY = 32;

    // Fields told as bits, as the maker's forms have them.
    private static final int JUST_DS = 3, JUST_DST = 7, JUST_DI = 9, JUST_DSI = 11;

    private static final int NO_FORM = 0, LOAD = 1, MOVE = 2, THREE = 3, WITH = 4, ONTO = 5, UPON = 6;

    private final Tape tape;
    private final Telling telling;
    private final Scribe scribe;
    private final Narrow narrow;
    private final int[] places;
    private final Stepper stepper;
    private final Maker maker;
    private final Sheets sheets;

    public OrdersTold() {
        tape = new Tape();
        telling = new Telling();
        scribe = new Scribe(tape, telling);
        narrow = new Narrow();
        places = new int[PLACES];
        stepper = new Stepper(telling, places);
        maker = new Maker(telling);
        sheets = new Sheets();
        startAnew(8, 2, 8);
    }

    private void startAnew(int w, int k, int b) {
        telling.startAnew(w, k, b);
        Arrays.fill(places, 0);
        stepper.startAnew(telling.wordMask());
        maker.useVariables(1);
    }

    private static boolean isPlace(int place) {
        return place >= 0 && place < PLACES;
    }

    private static boolean within(int n, int least, int most) {
        return n >= least && n <= most;
    }

    // ---- 1 the telling

    public int begin(int w, int k, int b) {
        if (!within(w, 2, 8) || !within(k, 1, 3) || !within(b, 6, 12)) {
            return BAD;
        }
        startAnew(w, k, b);
        return 1;
    }

    public int type(long w, int n) {
        return tape.append(w, n);
    }

    public int order() {
        boolean read = scribe.readOrder();
        int fault = tape.fault();
        tape.empty();
        return read ? telling.acceptSpare() : fault;
    }

    public int shared() {
        return telling.latestShared;
    }

    public int unorder() {
        return telling.removeLatest();
    }

    public int about(int order, int what) {
        Order told = telling.numbered(order);
        return told == null ? BAD : told.tellAbout(what);
    }

    public int look(int bits) {
        if (!telling.isBits(bits)) {
            return BAD;
        }
        int number = telling.numberOf(bits);
        return number < 0 ? NONE : number;
    }

    public int field(int bits, int f) {
        if (!telling.isBits(bits) || !within(f, D, I)) {
            return BAD;
        }
        Order told = telling.orderOf(bits);
        return told == null || !told.hasField(f) ? NONE : told.fieldOf(bits, f);
    }

    public int holes() {
        return telling.countHoles();
    }

    public int hole(int from) {
        return telling.isBits(from) ? telling.firstHole(from) : BAD;
    }

    public int count(int what) {
        switch (what) {
            case 0: return telling.told;
            case 1: return telling.registers();
            case 2: return telling.wordMask() + 1;
            case 3: return maker.variableCount;
            case 4: return stepper.flushTicks;
            default: return BAD;
        }
    }

    // ---- 2 the narrow machine

    public int reads(int order) {
        Order told = telling.numbered(order);
        return told == null ? BAD : narrow.whatReads(told);
    }

    public int writes(int order) {
        Order told = telling.numbered(order);
        return told == null ? BAD : narrow.whatWrites(told);
    }

    public int like(int a, int b) {
        Order first = telling.numbered(a);
        Order second = telling.numbered(b);
        if (first == null || second == null) {
            return BAD;
        }
        return narrow.leaveTheSame(first, second) ? 1 : 0;
    }

    // ---- 3 the stepper

    public int put(int place, int bits) {
        if (!isPlace(place) || !telling.isBits(bits)) {
            return BAD;
        }
        int was = places[place];
        places[place] = bits;
        return was;
    }

    public int code(int place) {
        return isPlace(place) ? places[place] : BAD;
    }

    public int set(int what, int i, int v) {
        int was = get(what, i);
        if (was < 0 || v < 0 || v > stepper.now.mostOf(what)) {
            return BAD;
        }
        stepper.change(what, i, v);
        return was;
    }

    public int get(int what, int i) {
        if (what == 0 && !within(i, 0, telling.registers() - 1)) {
            return BAD;
        }
        if (what == 1 && !within(i, 0, telling.wordMask())) {
            return BAD;
        }
        return within(what, 0, 3) ? stepper.now.held(what, i) : BAD;
    }

    public int reset() {
        stepper.clear();
        return 1;
    }

    public int run(int n) {
        if (!within(n, 1, 2000)) {
            return BAD;
        }
        int done = stepper.goOn(n);
        return done == 0 ? STOP : done;
    }

    public int back(int n) {
        return within(n, 1, Stepper.PAST) ? stepper.goBack(n) : BAD;
    }

    public int so(int what) {
        switch (what) {
            case 0: return stepper.steps;
            case 1: return stepper.ticks;
            case 2: return stepper.waits;
            case 3: return stepper.wrongGuesses;
            default: return BAD;
        }
    }

    public int flush(int f) {
        if (!within(f, 0, 9)) {
            return BAD;
        }
        int was = stepper.flushTicks;
        stepper.flushTicks = f;
        return was;
    }

    // ---- 4 writer, reader, maker

    public int line() {
        int bits = scribe.readLine();
        int fault = tape.fault();
        tape.empty();
        return bits < 0 ? fault : bits;
    }

    public int text(int bits, int k) {
        if (!telling.isBits(bits) || k < -1) {
            return BAD;
        }
        Order told = telling.orderOf(bits);
        if (told == null) {
            return NONE;
        }
        scribe.writeLine(told, bits);
        return k == -1 ? scribe.length : scribe.byteAt(k);
    }

    public int variables(int v) {
        if (!within(v, 1, telling.registers())) {
            return BAD;
        }
        int was = maker.variableCount;
        maker.useVariables(v);
        return was;
    }

    public int sum() {
        boolean read = maker.readSum(tape);
        int fault = tape.fault();
        tape.empty();
        return read ? maker.told.leaves : fault;
    }

    public int price() {
        return maker.isRead ? maker.priceOfSum() : NOT;
    }

    public int make(int place) {
        if (!isPlace(place)) {
            return BAD;
        }
        return maker.isRead ? maker.makeInto(places, place) : NOT;
    }

    public int value() {
        return maker.isRead ? maker.told.worth(stepper.now.registers, telling.wordMask()) : NOT;
    }

    // ---- 5 pairs, logs

    public int pairs(int a, int b, int end) {
        if (telling.numbered(a) == null || telling.numbered(b) == null || !within(end, 0, PLACES)) {
            return BAD;
        }
        return telling.countPairs(places, a, b, end);
    }

    public int room(int a, int b) {
        Order first = telling.numbered(a);
        Order second = telling.numbered(b);
        return first == null || second == null ? BAD : telling.roomFor(first, second);
    }

    public int best(int end) {
        return within(end, 0, PLACES) ? telling.bestPair(places, end) : BAD;
    }

    public int join(int a, int b) {
        Order first = telling.numbered(a);
        Order second = telling.numbered(b);
        if (first == null || second == null) {
            return BAD;
        }
        boolean read = scribe.readNameAlone();
        int fault = tape.fault();
        tape.empty();
        return read ? telling.joinBoth(first, second) : fault;
    }

    public int log(int sheet, int lane, int from, int n) {
        if (!Sheets.isSheet(sheet) || !Sheets.isLane(lane) || !within(n, 0, 10)) {
            return BAD;
        }
        int found = sheets.refusal(sheet, lane, from, 3 * n);
        return found < 0 ? found : stepper.holdAgainst(sheets.rows[sheet], from, n);
    }

    public int load(int sheet, int lane, int from, int place, int n) {
        if (!Sheets.isSheet(sheet) || !Sheets.isLane(lane) || !within(n, 0, MOST_ITEMS)
                || !isPlace(place) || place + n > PLACES) {
            return BAD;
        }
        int found = sheets.refusal(sheet, lane, from, n);
        if (found < 0) {
            return found;
        }
        return takeBits(sheets.rows[sheet], from, place, n);
    }

    private int takeBits(int[] row, int from, int place, int n) {
        for (int i = 0; i < n; i++) {
            if (!telling.isBits(row[from + i])) {
                return NOT;
            }
        }
        System.arraycopy(row, from, places, place, n);
        return n;
    }

    // ---- 6 sheets

    public int sheet(int sheet, int lane, int n) {
        if (!Sheets.isSheet(sheet) || !Sheets.isLane(lane) || n > MOST_ITEMS) {
            return BAD;
        }
        return n < 0 ? SIZE : sheets.lay(sheet, lane, n);
    }

    public int drop(int sheet) {
        return Sheets.isSheet(sheet) ? sheets.takeAway(sheet) : BAD;
    }

    public int item(int sheet, int lane, int i, int v) {
        if (!Sheets.isSheet(sheet) || !Sheets.isLane(lane)) {
            return BAD;
        }
        int found = sheets.refusal(sheet, lane, i, 1);
        return found < 0 ? found : sheets.write(sheet, i, v);
    }

    /** What was typed, and a cursor that stays on the byte that can't stand, when a reader gives up. */
    private static final class Tape {
        static final int LONGEST = 80;
        static final int END = -1;

        final int[] bytes = new int[LONGEST];
        int length;
        int at;
        int wordStart;

        int append(long w, int n) {
            if (n < 1 || n > 8) {
                return BAD;
            }
            for (int i = 0; i < n; i++) {
                int b = (int) (w >>> (8 * i)) & 255;
                if (b < 32 || b > 126) {
                    return BAD;
                }
            }
            if (length + n > LONGEST) {
                return FULL;
            }
            for (int i = n - 1; i >= 0; i--) {
                bytes[length++] = (int) (w >>> (8 * i)) & 255;
            }
            return length;
        }

        void empty() {
            length = 0;
            at = 0;
        }

        void rewind() {
            at = 0;
        }

        int fault() {
            return -20 - at;
        }

        int next() {
            while (at < length && bytes[at] == ' ') {
                at++;
            }
            return at < length ? bytes[at] : END;
        }

        void pass() {
            if (at < length) {
                at++;
            }
        }

        boolean takes(int wanted) {
            if (next() != wanted) {
                return false;
            }
            pass();
            return true;
        }

        /** A name as its letters, 8 bits each; 0: there is none. */
        int takeName() {
            next();
            wordStart = at;
            int name = 0;
            while (at < length && at < wordStart + 3 && bytes[at] >= 'a' && bytes[at] <= 'z') {
                name = name * 256 + bytes[at];
                at++;
            }
            return name;
        }

        /** A number up to most; below 0: there is none, or it is beyond, and its first byte is at fault. */
        int takeNumber(int most) {
            if (!isDigit(next())) {
                return -1;
            }
            wordStart = at;
            int number = 0;
            while (at < length && isDigit(bytes[at])) {
                number = Math.min(number * 10 + bytes[at] - '0', 1000);
                at++;
            }
            if (number > most) {
                blameWord();
                return -1;
            }
            return number;
        }

        void blameWord() {
            at = wordStart;
        }

        static boolean isDigit(int c) {
            return c >= '0' && c <= '9';
        }

        static boolean isSign(int c) {
            return c == '+' || c == '-' || c == '&' || c == '|' || c == '^' || c == '<';
        }
    }

    /** A machine that acts are done on: the one that steps, or the narrow one. */
    private abstract static class Machine {
        int mask;

        abstract int wordOf(int operand);

        abstract void become(int target, int word);
    }

    /** One order as it was told or joined. */
    private static final class Order {
        static final int MOST_ACTS = 3;
        static final int UNKNOWN = -1;

        int name;
        int fixedMask;
        int fixedBits;
        final int[] fieldMasks = new int[4];
        int guard;
        int guardOn;
        int acts;
        final int[] targets = new int[MOST_ACTS];
        final int[] lefts = new int[MOST_ACTS];
        final int[] signs = new int[MOST_ACTS];
        final int[] rights = new int[MOST_ACTS];
        int ticks;
        int named;
        int aimed;
        int form;
        int readsKnown;
        int writesKnown;

        void clear() {
            name = 0;
            fixedMask = 0;
            fixedBits = 0;
            Arrays.fill(fieldMasks, 0);
            guard = 0;
            guardOn = 0;
            acts = 0;
            ticks = 0;
            named = 0;
            aimed = 0;
            form = NO_FORM;
            readsKnown = UNKNOWN;
            writesKnown = UNKNOWN;
        }

        void addGuard(int kind, int on) {
            guard = kind;
            guardOn = on;
            named |= namedBy(on);
        }

        /** A sign of 0 is none. */
        void addAct(int target, int left, int sign, int right) {
            if (acts >= MOST_ACTS) {
                return;
            }
            targets[acts] = target;
            lefts[acts] = left;
            signs[acts] = sign;
            rights[acts] = right;
            acts++;
            named |= namedBy(left) | (sign == 0 ? 0 : namedBy(right));
            if (target >= AT) {
                aimed |= BIT_MEMORY;
                // The word that tells where in MEMORY is named, though MEMORY itself is not.
                named |= namedBy(target - AT);
            } else {
                aimed |= namedBy(target);
            }
        }

        void addActsOf(Order other) {
            for (int a = 0; a < other.acts; a++) {
                addAct(other.targets[a], other.lefts[a], other.signs[a], other.rights[a]);
            }
        }

        static int namedBy(int operand) {
            if (operand == Z) {
                return BIT_Z;
            }
            if (operand == P) {
                return BIT_P;
            }
            if (operand == I || operand >= NUMBER) {
                return 0;
            }
            if (operand >= AT) {
                return BIT_MEMORY | (operand - AT == I ? 0 : 1 << (operand - AT));
            }
            return 1 << operand;
        }

        boolean hasField(int f) {
            return fieldMasks[f] != 0;
        }

        int fieldBits(int f) {
            return Integer.bitCount(fieldMasks[f]);
        }

        int fieldLetters() {
            int letters = 0;
            for (int f = D; f <= I; f++) {
                letters |= hasField(f) ? 1 << f : 0;
            }
            return letters;
        }

        int fieldOf(int bits, int f) {
            int mask = fieldMasks[f];
            if (mask == 0) {
                return 0;
            }
            int number = 0;
            for (int bit = Telling.MOST_BITS >> 1; bit > 0; bit >>= 1) {
                if ((mask & bit) != 0) {
                    number = number * 2 + ((bits & bit) == 0 ? 0 : 1);
                }
            }
            return number;
        }

        int withField(int bits, int f, int number) {
            int told = bits;
            int rest = number;
            for (int bit = 1; bit < Telling.MOST_BITS; bit <<= 1) {
                if ((fieldMasks[f] & bit) != 0) {
                    told |= (rest & 1) == 0 ? 0 : bit;
                    rest >>= 1;
                }
            }
            return told;
        }

        boolean isOf(int bits) {
            return (bits & fixedMask) == fixedBits;
        }

        int tellAbout(int what) {
            switch (what) {
                case 0: return ticks;
                case 1: return acts;
                case 2: return guard;
                case 3: return fieldLetters();
                case 4: return fieldBits(I);
                case 5: return fixedBits;
                default: return BAD;
            }
        }

        void findForm() {
            form = NO_FORM;
            if (guard == 0 && acts == 1 && targets[0] == D) {
                int letters = fieldLetters();
                form = signs[0] == 0 ? plainForm(letters) : signForm(letters);
            }
        }

        private int plainForm(int letters) {
            if (lefts[0] == I && letters == JUST_DI) {
                return LOAD;
            }
            return lefts[0] == S && letters == JUST_DS ? MOVE : NO_FORM;
        }

        private int signForm(int letters) {
            if (lefts[0] == S && rights[0] == T && letters == JUST_DST) {
                return THREE;
            }
            if (lefts[0] == S && rights[0] == I && letters == JUST_DSI) {
                return WITH;
            }
            if (lefts[0] == D && rights[0] == S && letters == JUST_DS) {
                return ONTO;
            }
            return lefts[0] == D && rights[0] == I && letters == JUST_DI ? UPON : NO_FORM;
        }

        void doOn(Machine machine) {
            if (guard != 0 && (machine.wordOf(guardOn) != 0) != (guard == 1)) {
                return;
            }
            for (int a = 0; a < acts; a++) {
                int word = machine.wordOf(lefts[a]);
                if (signs[a] != 0) {
                    word = combine(signs[a], word, machine.wordOf(rights[a]), machine.mask);
                }
                machine.become(targets[a], word);
            }
        }

        static int combine(int sign, int left, int right, int mask) {
            switch (sign) {
                case '+': return (left + right) & mask;
                case '-': return (left - right) & mask;
                case '&': return left & right;
                case '|': return left | right;
                case '^': return left ^ right;
                default: return left < right ? 1 : 0;
            }
        }
    }

    /** The orders that are told, which bits are which, and which two could be one. */
    private static final class Telling {
        static final int MOST_BITS = 4096;
        static final int HOLE = -1;

        int wordBits;
        int registerBits;
        int orderBits;
        int told;
        int latestShared;
        Order spare = new Order();
        final Order[] orders = new Order[MOST_ORDERS];
        final int[] byBits = new int[MOST_BITS];

        Telling() {
            for (int i = 0; i < MOST_ORDERS; i++) {
                orders[i] = new Order();
            }
        }

        void startAnew(int w, int k, int b) {
            wordBits = w;
            registerBits = k;
            orderBits = b;
            told = 0;
            latestShared = NONE;
            Arrays.fill(byBits, HOLE);
        }

        int wordMask() {
            return (1 << wordBits) - 1;
        }

        int registers() {
            return 1 << registerBits;
        }

        int bitsInAll() {
            return 1 << orderBits;
        }

        boolean isBits(int bits) {
            return bits >= 0 && bits < bitsInAll();
        }

        int numberOf(int bits) {
            return bits >= 0 && bits < MOST_BITS ? byBits[bits] : HOLE;
        }

        Order orderOf(int bits) {
            return numbered(numberOf(bits));
        }

        Order numbered(int number) {
            return number >= 0 && number < told ? orders[number] : null;
        }

        int nameNumber(int name) {
            for (int i = 0; i < told; i++) {
                if (orders[i].name == name) {
                    return i;
                }
            }
            return -1;
        }

        int acceptSpare() {
            int bits = leastSharedBits();
            if (bits < bitsInAll()) {
                latestShared = bits * 32 + byBits[bits];
                return NOT;
            }
            return keepSpare();
        }

        private int leastSharedBits() {
            int least = bitsInAll();
            for (int i = 0; i < told; i++) {
                Order other = orders[i];
                int unlike = (other.fixedBits ^ spare.fixedBits) & other.fixedMask & spare.fixedMask;
                if (unlike == 0) {
                    least = Math.min(least, other.fixedBits | spare.fixedBits);
                }
            }
            return least;
        }

        private int keepSpare() {
            if (told >= MOST_ORDERS) {
                return FULL;
            }
            Order kept = spare;
            spare = orders[told];
            orders[told] = kept;
            kept.findForm();
            markBits(kept, told);
            told++;
            return told - 1;
        }

        int removeLatest() {
            if (told == 0) {
                return NOT;
            }
            told--;
            markBits(orders[told], HOLE);
            return told;
        }

        private void markBits(Order order, int number) {
            for (int bits = 0; bits < bitsInAll(); bits++) {
                if (order.isOf(bits)) {
                    byBits[bits] = number;
                }
            }
        }

        int countHoles() {
            int left = bitsInAll();
            for (int i = 0; i < told; i++) {
                left -= 1 << (orderBits - Integer.bitCount(orders[i].fixedMask));
            }
            return left;
        }

        int firstHole(int from) {
            for (int bits = from; bits < bitsInAll(); bits++) {
                if (byBits[bits] == HOLE) {
                    return bits;
                }
            }
            return NONE;
        }

        int countPairs(int[] places, int a, int b, int end) {
            int pairs = 0;
            for (int x = 0; x + 1 < end; x++) {
                if (numberOf(places[x]) == a && numberOf(places[x + 1]) == b && tellAlike(places[x], places[x + 1])) {
                    pairs++;
                    // No place is in two pairs.
                    x++;
                }
            }
            return pairs;
        }

        private boolean tellAlike(int bits, int nextBits) {
            Order first = orderOf(bits);
            Order second = orderOf(nextBits);
            if (first == null || second == null) {
                return false;
            }
            for (int f = D; f <= I; f++) {
                if (first.hasField(f) && second.hasField(f)
                        && first.fieldOf(bits, f) != second.fieldOf(nextBits, f)) {
                    return false;
                }
            }
            return true;
        }

        int bestPair(int[] places, int end) {
            int best = NONE;
            int most = 0;
            for (int a = 0; a < told; a++) {
                for (int b = 0; b < told; b++) {
                    int pairs = countPairs(places, a, b, end);
                    if (pairs > most && roomFor(orders[a], orders[b]) >= 0) {
                        most = pairs;
                        best = 20 * a + b;
                    }
                }
            }
            return best;
        }

        int roomFor(Order a, Order b) {
            int free = freeBits(a, b);
            if (free >= orderBits || !canFollow(a, b)) {
                return NOT;
            }
            int block = 1 << free;
            for (int from = 0; from < bitsInAll(); from += block) {
                if (areHoles(from, block)) {
                    return from;
                }
            }
            return NOT;
        }

        private static boolean canFollow(Order a, Order b) {
            if (a.guard != 0 || b.guard != 0 || ((a.named | a.aimed | b.named | b.aimed) & BIT_P) != 0) {
                return false;
            }
            if (a.acts + b.acts > Order.MOST_ACTS || a.ticks + b.ticks > 10) {
                return false;
            }
            return !a.hasField(I) || !b.hasField(I) || a.fieldBits(I) == b.fieldBits(I);
        }

        private static int widthOf(Order a, Order b, int f) {
            return Math.max(a.fieldBits(f), b.fieldBits(f));
        }

        private static int freeBits(Order a, Order b) {
            int free = 0;
            for (int f = D; f <= I; f++) {
                free += widthOf(a, b, f);
            }
            return free;
        }

        private boolean areHoles(int from, int block) {
            for (int bits = from; bits < from + block; bits++) {
                if (numberOf(bits) != HOLE) {
                    return false;
                }
            }
            return true;
        }

        /** The spare order has its name by now. */
        int joinBoth(Order a, Order b) {
            int room = roomFor(a, b);
            if (room < 0) {
                return NOT;
            }
            int free = freeBits(a, b);
            spare.fixedMask = bitsInAll() - (1 << free);
            spare.fixedBits = room;
            for (int f = D; f <= I; f++) {
                int width = widthOf(a, b, f);
                free -= width;
                spare.fieldMasks[f] = ((1 << width) - 1) << free;
            }
            spare.addActsOf(a);
            spare.addActsOf(b);
            spare.ticks = a.ticks + b.ticks - 1;
            return keepSpare();
        }
    }

    /** Reads orders and lines, stopping with the cursor on what can't stand, and writes lines. */
    private static final class Scribe {
        private static final int NO_STORE = -1;
        // A name, a blank, three registers of a digit, a number of three, three commas: 13 at most.
        private static final int LONGEST_LINE = 16;

        final Tape tape;
        final Telling telling;
        final int[] written = new int[LONGEST_LINE];
        int length;

        Scribe(Tape tape, Telling telling) {
            this.tape = tape;
            this.telling = telling;
        }

        boolean readOrder() {
            return readNewName() && tape.takes(':') && readLook()
                    && tape.takes(':') && readGuard() && readActs()
                    && tape.takes(':') && readTicks() && tape.next() == Tape.END;
        }

        boolean readNameAlone() {
            return readNewName() && tape.next() == Tape.END;
        }

        private boolean readNewName() {
            Order order = telling.spare;
            order.clear();
            tape.rewind();
            order.name = tape.takeName();
            if (order.name == 0) {
                return false;
            }
            if (telling.nameNumber(order.name) >= 0) {
                tape.blameWord();
                return false;
            }
            return true;
        }

        private boolean readLook() {
            Order order = telling.spare;
            for (int bit = telling.bitsInAll() >> 1; bit > 0; bit >>= 1) {
                int c = tape.next();
                int f = fieldNamed(c);
                if (f >= 0) {
                    order.fieldMasks[f] |= bit;
                } else if (c == '0' || c == '1') {
                    order.fixedMask |= bit;
                    order.fixedBits |= c == '1' ? bit : 0;
                } else {
                    return false;
                }
                tape.pass();
            }
            tape.next();
            return areFieldsAsTold(order);
        }

        private boolean areFieldsAsTold(Order order) {
            for (int f = D; f <= T; f++) {
                if (order.hasField(f) && order.fieldBits(f) != telling.registerBits) {
                    return false;
                }
            }
            return order.fieldBits(I) <= telling.wordBits;
        }

        private static int fieldNamed(int c) {
            switch (c) {
                case 'd': return D;
                case 's': return S;
                case 't': return T;
                case 'i': return I;
                default: return NO_STORE;
            }
        }

        private int fieldInLook(int c) {
            int f = fieldNamed(c);
            return f >= 0 && telling.spare.hasField(f) ? f : NO_STORE;
        }

        private boolean readGuard() {
            if (!tape.takes('?')) {
                return true;
            }
            int kind = tape.takes('!') ? 2 : 1;
            int on = nextStore();
            if (on == NO_STORE || on == I || on == P) {
                return false;
            }
            tape.pass();
            telling.spare.addGuard(kind, on);
            return tape.takes(',');
        }

        private boolean readActs() {
            for (int a = 0; a < Order.MOST_ACTS; a++) {
                if (a > 0 && !tape.takes(',')) {
                    return true;
                }
                if (!readAct()) {
                    return false;
                }
            }
            return true;
        }

        private boolean readAct() {
            int target = readTarget();
            if (target == NO_STORE || !tape.takes('=')) {
                return false;
            }
            int left = readOperand();
            if (left == NO_STORE) {
                return false;
            }
            int sign = tape.next();
            if (!Tape.isSign(sign)) {
                telling.spare.addAct(target, left, 0, 0);
                return true;
            }
            tape.pass();
            int right = readOperand();
            if (right == NO_STORE) {
                return false;
            }
            telling.spare.addAct(target, left, sign, right);
            return true;
        }

        private int readTarget() {
            if (tape.takes('[')) {
                return readMemory();
            }
            int target = nextStore();
            if (target == NO_STORE || target == I) {
                return NO_STORE;
            }
            tape.pass();
            return target;
        }

        private int readOperand() {
            if (tape.takes('[')) {
                return readMemory();
            }
            int operand = nextStore();
            if (operand == NO_STORE) {
                int number = tape.takeNumber(255);
                return number < 0 ? NO_STORE : NUMBER + number;
            }
            tape.pass();
            return operand;
        }

        private int readMemory() {
            int f = fieldInLook(tape.next());
            if (f == NO_STORE) {
                return NO_STORE;
            }
            tape.pass();
            return tape.takes(']') ? AT + f : NO_STORE;
        }

        private int nextStore() {
            int c = tape.next();
            return c == 'z' ? Z : c == 'p' ? P : fieldInLook(c);
        }

        private boolean readTicks() {
            int c = tape.next();
            if (c < '1' || c > '9') {
                return false;
            }
            tape.pass();
            telling.spare.ticks = c - '0';
            return true;
        }

        /** Bits, or below 0: the cursor is at fault. */
        int readLine() {
            tape.rewind();
            Order order = telling.numbered(telling.nameNumber(tape.takeName()));
            if (order == null) {
                tape.blameWord();
                return -1;
            }
            int bits = order.fixedBits;
            boolean isFirst = true;
            for (int f = D; f <= I; f++) {
                if (!order.hasField(f)) {
                    continue;
                }
                if (!isFirst && !tape.takes(',')) {
                    return -1;
                }
                int number = tape.takeNumber((1 << order.fieldBits(f)) - 1);
                if (number < 0) {
                    return -1;
                }
                bits = order.withField(bits, f, number);
                isFirst = false;
            }
            return tape.next() == Tape.END ? bits : -1;
        }

        void writeLine(Order order, int bits) {
            length = 0;
            for (int shift = 16; shift >= 0; shift -= 8) {
                if (order.name >> shift != 0) {
                    writeByte(order.name >> shift & 255);
                }
            }
            int between = ' ';
            for (int f = D; f <= I; f++) {
                if (order.hasField(f)) {
                    writeByte(between);
                    writeNumber(order.fieldOf(bits, f));
                    between = ',';
                }
            }
        }

        private void writeNumber(int number) {
            if (number >= 100) {
                writeByte('0' + number / 100);
            }
            if (number >= 10) {
                writeByte('0' + number / 10 % 10);
            }
            writeByte('0' + number % 10);
        }

        private void writeByte(int b) {
            if (length < LONGEST_LINE) {
                written[length++] = b;
            }
        }

        int byteAt(int k) {
            return k >= 0 && k < length ? written[k] : BAD;
        }
    }

    /**
     * The machine of two-bit words. It is gone through by asking: a store takes each of its values only where an
     * order looks at it, so that what no order looks at costs nothing, and still no two states are missed.
     */
    private static final class Narrow extends Machine {
        private static final int SLOT_Z = 3, SLOT_P = 4, SLOT_MEMORY = 5, STORES = 9, SLOT_I = 9, SLOTS = 10;
        private static final int OPEN = -1;
        private static final int MOST_TURNS = 1000000;

        final int[] ahead = new int[SLOTS];
        final int[] behind = new int[STORES];
        final int[] firstBehind = new int[STORES];
        final int[] asked = new int[SLOTS];
        int askedCount;

        Narrow() {
            mask = 3;
        }

        private static int bitOf(int slot) {
            return slot >= SLOT_MEMORY ? BIT_MEMORY : 1 << slot;
        }

        private static int valuesOf(int slot) {
            return slot == SLOT_Z ? 2 : 4;
        }

        private void startOver() {
            Arrays.fill(ahead, OPEN);
            askedCount = 0;
        }

        /** On to the next state that differs in something that was asked for; false: there is none. */
        private boolean goToNext() {
            for (int left = askedCount; left > 0; left--) {
                int slot = asked[left - 1];
                if (ahead[slot] + 1 < valuesOf(slot)) {
                    ahead[slot]++;
                    return true;
                }
                ahead[slot] = OPEN;
                askedCount = left - 1;
            }
            return false;
        }

        private int aheadIn(int slot) {
            if (ahead[slot] == OPEN && askedCount < SLOTS) {
                ahead[slot] = 0;
                asked[askedCount++] = slot;
            }
            return ahead[slot];
        }

        private int inSlot(int slot) {
            return slot < STORES && behind[slot] != OPEN ? behind[slot] : aheadIn(slot);
        }

        private static int slotOf(int store) {
            switch (store) {
                case S: return S;
                case T: return T;
                case I: return SLOT_I;
                case Z: return SLOT_Z;
                case P: return SLOT_P;
                default: return D;
            }
        }

        int wordOf(int operand) {
            if (operand >= NUMBER) {
                return (operand - NUMBER) & mask;
            }
            int word = inSlot(slotOf(operand >= AT ? operand - AT : operand));
            return operand >= AT ? inSlot(SLOT_MEMORY + (word & mask)) : word;
        }

        void become(int target, int word) {
            if (target >= AT) {
                int where = inSlot(slotOf(target - AT)) & mask;
                behind[SLOT_MEMORY + where] = word & mask;
            } else if (target != I) {
                behind[slotOf(target)] = target == Z ? (word == 0 ? 0 : 1) : word & mask;
            }
        }

        private void doAfresh(Order order) {
            Arrays.fill(behind, OPEN);
            order.doOn(this);
        }

        int whatReads(Order order) {
            if (order.readsKnown == Order.UNKNOWN) {
                int bits = 0;
                for (int slot = 0; slot < STORES; slot++) {
                    int bit = bitOf(slot);
                    // What an order does not name can't make anything unlike.
                    if ((order.named & bit) != 0 && (bits & bit) == 0 && readsSlot(order, slot)) {
                        bits |= bit;
                    }
                }
                order.readsKnown = bits;
            }
            return order.readsKnown;
        }

        private boolean readsSlot(Order order, int slot) {
            startOver();
            for (int turn = 0; turn < MOST_TURNS; turn++) {
                if (isSeenBehind(order, slot)) {
                    return true;
                }
                if (!goToNext()) {
                    return false;
                }
            }
            return false;
        }

        /** Whether the values of a store, all else alike, leave something unlike that was not so by itself. */
        private boolean isSeenBehind(Order order, int slot) {
            boolean isKept = true;
            boolean isSame = true;
            int first = 0;
            for (int v = 0; v < valuesOf(slot); v++) {
                ahead[slot] = v;
                Arrays.fill(behind, OPEN);
                order.doOn(this);
                int left = inSlot(slot);
                if (v == 0) {
                    first = left;
                    System.arraycopy(behind, 0, firstBehind, 0, STORES);
                } else if (isUnlike(slot)) {
                    return true;
                }
                isKept &= left == v;
                isSame &= left == first;
            }
            return !isKept && !isSame;
        }

        /** Whether a store other than one is unlike behind the first order done and behind the latest. */
        private boolean isUnlike(int butFor) {
            for (int y = 0; y < STORES; y++) {
                if (y != butFor && firstBehind[y] != behind[y]) {
                    int one = firstBehind[y] == OPEN ? aheadIn(y) : firstBehind[y];
                    if (one != inSlot(y)) {
                        return true;
                    }
                }
            }
            return false;
        }

        int whatWrites(Order order) {
            if (order.writesKnown == Order.UNKNOWN) {
                int bits = 0;
                startOver();
                for (int turn = 0; turn < MOST_TURNS; turn++) {
                    bits |= changedBy(order);
                    if (bits == order.aimed || !goToNext()) {
                        break;
                    }
                }
                order.writesKnown = bits;
            }
            return order.writesKnown;
        }

        private int changedBy(Order order) {
            int bits = 0;
            doAfresh(order);
            for (int slot = 0; slot < STORES; slot++) {
                if (behind[slot] != OPEN && behind[slot] != aheadIn(slot)) {
                    bits |= bitOf(slot);
                }
            }
            return bits;
        }

        boolean leaveTheSame(Order a, Order b) {
            startOver();
            for (int turn = 0; turn < MOST_TURNS; turn++) {
                doAfresh(a);
                System.arraycopy(behind, 0, firstBehind, 0, STORES);
                doAfresh(b);
                if (isUnlike(STORES)) {
                    return false;
                }
                if (!goToNext()) {
                    return true;
                }
            }
            return true;
        }
    }

    /** The machine as it was told: its registers, its memory, Z and P. */
    private static final class Wide extends Machine {
        static final int REGISTERS = 8, WORDS = 256;
        private static final int STORE_Z = 1 << REGISTERS, STORE_MEMORY = STORE_Z << 1;

        final int[] registers = new int[REGISTERS];
        final int[] memory = new int[WORDS];
        int z;
        int p;
        final int[] fields = new int[4];
        int changes;
        final int[] changedAt = new int[Order.MOST_ACTS];
        final int[] changedFrom = new int[Order.MOST_ACTS];

        void clear() {
            Arrays.fill(registers, 0);
            Arrays.fill(memory, 0);
            z = 0;
            p = 0;
        }

        void copyOf(Wide other) {
            System.arraycopy(other.registers, 0, registers, 0, REGISTERS);
            System.arraycopy(other.memory, 0, memory, 0, WORDS);
            z = other.z;
            p = other.p;
            mask = other.mask;
        }

        int mostOf(int what) {
            return what == 2 ? 1 : what == 3 ? PLACES - 1 : mask;
        }

        int held(int what, int i) {
            switch (what) {
                case 0: return registers[i & 7];
                case 1: return memory[i & 255];
                case 2: return z;
                default: return p;
            }
        }

        void hold(int what, int i, int v) {
            switch (what) {
                case 0: registers[i & 7] = v; break;
                case 1: memory[i & 255] = v; break;
                case 2: z = v; break;
                default: p = v; break;
            }
        }

        private int wordIn(int f) {
            return f == I ? fields[I] : registers[fields[f] & 7];
        }

        int wordOf(int operand) {
            if (operand >= NUMBER) {
                return (operand - NUMBER) & mask;
            }
            if (operand >= AT) {
                return memory[wordIn(operand - AT) & 255];
            }
            switch (operand) {
                case Z: return z;
                case P: return p & mask;
                default: return wordIn(operand);
            }
        }

        void become(int target, int word) {
            if (target == Z) {
                z = word == 0 ? 0 : 1;
            } else if (target == P) {
                p = word & (PLACES - 1);
            } else if (target >= AT) {
                int where = wordIn(target - AT) & 255;
                noteChange(REGISTERS + where, memory[where]);
                memory[where] = word;
            } else {
                int number = fields[target] & 7;
                noteChange(number, registers[number]);
                registers[number] = word;
            }
        }

        private void noteChange(int where, int was) {
            if (changes < Order.MOST_ACTS) {
                changedAt[changes] = where;
                changedFrom[changes] = was;
                changes++;
            }
        }

        void undoChange(int where, int was) {
            if (where < REGISTERS) {
                registers[where & 7] = was;
            } else {
                memory[(where - REGISTERS) & 255] = was;
            }
        }

        void perform(Order order, int bits) {
            for (int f = D; f <= I; f++) {
                fields[f] = order.fieldOf(bits, f);
            }
            changes = 0;
            p = (p + 1) & (PLACES - 1);
            order.doOn(this);
        }

        /** Letters of the order done latest as the stores that they were: registers by number, Z, MEMORY as a whole. */
        int storesOf(int letters) {
            int stores = 0;
            for (int f = D; f <= T; f++) {
                if ((letters & 1 << f) != 0) {
                    stores |= 1 << (fields[f] & 7);
                }
            }
            stores |= (letters & BIT_Z) == 0 ? 0 : STORE_Z;
            return stores | ((letters & BIT_MEMORY) == 0 ? 0 : STORE_MEMORY);
        }
    }

    /** Steps, what they cost in the pipe, and how they are gone back. */
    private static final class Stepper {
        static final int PAST = 100;
        // A row of the past: all this as it was ahead of a step, then how many changes, each where and from what.
        private static final int WAS_P = 0, WAS_Z = 1, WAS_GUESS = 2, WAS_TICKS = 3, WAS_WAITS = 4, WAS_WRONG = 5;
        private static final int CHANGES = 6, FIRST_CHANGE = 7, ROW = FIRST_CHANGE + 2 * Order.MOST_ACTS;

        final Telling telling;
        final int[] places;
        final Wide now = new Wide();
        final Wide trial = new Wide();
        final int[][] past = new int[PAST][ROW];
        int pastCount;
        int pastNext;
        final int[] guesses = new int[PLACES];
        int steps;
        int ticks;
        int waits;
        int wrongGuesses;
        int flushTicks;
        int latestTicks;
        int latestAimed;

        Stepper(Telling telling, int[] places) {
            this.telling = telling;
            this.places = places;
        }

        void startAnew(int wordMask) {
            now.mask = wordMask;
            flushTicks = 2;
            clear();
        }

        void clear() {
            now.clear();
            for (int place = 0; place < PLACES; place++) {
                guesses[place] = (place + 1) & (PLACES - 1);
            }
            steps = 0;
            ticks = 0;
            waits = 0;
            wrongGuesses = 0;
            forgetPast();
        }

        private void forgetPast() {
            pastCount = 0;
            forgetLatest();
        }

        /** No step stands just ahead of the next one, so that it waits for none. */
        private void forgetLatest() {
            latestTicks = 0;
            latestAimed = 0;
        }

        void change(int what, int i, int v) {
            now.hold(what, i, v);
            forgetPast();
        }

        int goOn(int n) {
            for (int done = 0; done < n; done++) {
                if (!step()) {
                    return done;
                }
            }
            return n;
        }

        private boolean step() {
            int place = now.p & (PLACES - 1);
            Order order = telling.orderOf(places[place]);
            if (order == null) {
                return false;
            }
            int[] row = past[pastNext];
            noteAhead(row, place);
            now.perform(order, places[place]);
            noteChanges(row);
            countStep(order, place);
            return true;
        }

        private void noteAhead(int[] row, int place) {
            row[WAS_P] = now.p;
            row[WAS_Z] = now.z;
            row[WAS_GUESS] = guesses[place];
            row[WAS_TICKS] = ticks;
            row[WAS_WAITS] = waits;
            row[WAS_WRONG] = wrongGuesses;
        }

        private void noteChanges(int[] row) {
            row[CHANGES] = now.changes;
            for (int c = 0; c < now.changes; c++) {
                row[FIRST_CHANGE + 2 * c] = now.changedAt[c];
                row[FIRST_CHANGE + 2 * c + 1] = now.changedFrom[c];
            }
            pastNext = (pastNext + 1) % PAST;
            pastCount = Math.min(pastCount + 1, PAST);
        }

        private void countStep(Order order, int place) {
            steps++;
            ticks += order.ticks;
            if (latestTicks > 1 && (latestAimed & now.storesOf(order.named)) != 0) {
                waits += latestTicks - 1;
                ticks += latestTicks - 1;
            }
            latestTicks = order.ticks;
            latestAimed = now.storesOf(order.aimed);
            if (guesses[place] != now.p) {
                guesses[place] = now.p;
                wrongGuesses++;
                ticks += flushTicks;
            }
        }

        int goBack(int n) {
            if (n > pastCount) {
                return NOT;
            }
            for (int i = 0; i < n; i++) {
                pastNext = (pastNext + PAST - 1) % PAST;
                pastCount--;
                undoStep(past[pastNext]);
            }
            forgetLatest();
            return pastCount;
        }

        private void undoStep(int[] row) {
            // The latest change first: two acts may have changed one store.
            for (int c = row[CHANGES] - 1; c >= 0; c--) {
                now.undoChange(row[FIRST_CHANGE + 2 * c], row[FIRST_CHANGE + 2 * c + 1]);
            }
            now.p = row[WAS_P];
            now.z = row[WAS_Z];
            guesses[now.p & (PLACES - 1)] = row[WAS_GUESS];
            ticks = row[WAS_TICKS];
            waits = row[WAS_WAITS];
            wrongGuesses = row[WAS_WRONG];
            steps--;
        }

        /** A copy does the steps, so that all is as ahead then. */
        int holdAgainst(int[] items, int from, int n) {
            trial.copyOf(now);
            for (int row = 0; row < n; row++) {
                if (row > 0 && !tryStep()) {
                    return row;
                }
                if (!isSo(items, from + 3 * row)) {
                    return row;
                }
            }
            return n;
        }

        private boolean tryStep() {
            int bits = places[trial.p & (PLACES - 1)];
            Order order = telling.orderOf(bits);
            if (order == null) {
                return false;
            }
            trial.perform(order, bits);
            return true;
        }

        private boolean isSo(int[] items, int at) {
            int number = items[at + 1];
            return items[at] == trial.p && number >= 0 && number < telling.registers()
                    && items[at + 2] == trial.registers[number];
        }
    }

    /** A sum as a tree. A node's sides stand ahead of it, so that the order of nodes is the order of work. */
    private static final class Sum {
        static final int MOST_LEAVES = 20, MOST_NODES = 2 * MOST_LEAVES - 1, DEEPEST = 6;
        static final int VARIABLE = 1, LITERAL = 2;

        // VARIABLE, LITERAL, or the sign.
        final int[] kinds = new int[MOST_NODES];
        // Which register, or which number.
        final int[] words = new int[MOST_NODES];
        final int[] lefts = new int[MOST_NODES];
        final int[] rights = new int[MOST_NODES];
        final int[] results = new int[MOST_NODES];
        int nodes;
        int leaves;
        final int[] openLefts = new int[DEEPEST + 1];
        final int[] openSigns = new int[DEEPEST + 1];
        int depth;

        int root() {
            return nodes - 1;
        }

        boolean isVariable(int node) {
            return kinds[node] == VARIABLE;
        }

        boolean isLiteral(int node) {
            return kinds[node] == LITERAL;
        }

        /** False: the cursor is at fault. */
        boolean readFrom(Tape tape, int variables, int wordMask) {
            nodes = 0;
            leaves = 0;
            depth = 0;
            openSigns[0] = 0;
            tape.rewind();
            for (int turn = 0; turn < Tape.LONGEST; turn++) {
                if (!openAll(tape)) {
                    return false;
                }
                int leaf = readLeaf(tape, variables, wordMask);
                if (leaf < 0) {
                    return false;
                }
                hang(leaf);
                closeAll(tape);
                int sign = tape.next();
                if (sign == Tape.END) {
                    return depth == 0;
                }
                if (!Tape.isSign(sign)) {
                    return false;
                }
                openSigns[depth] = sign;
                tape.pass();
            }
            return false;
        }

        private boolean openAll(Tape tape) {
            while (depth < DEEPEST && tape.takes('(')) {
                depth++;
                openSigns[depth] = 0;
            }
            return tape.next() != '(';
        }

        private void closeAll(Tape tape) {
            while (depth > 0 && tape.takes(')')) {
                depth--;
                hang(openLefts[depth + 1]);
            }
        }

        /** A word stands behind what its level has so far. */
        private void hang(int node) {
            if (openSigns[depth] == 0) {
                openLefts[depth] = node;
                return;
            }
            openLefts[depth] = addNode(openSigns[depth], 0, openLefts[depth], node);
        }

        private int readLeaf(Tape tape, int variables, int wordMask) {
            int c = tape.next();
            if (leaves >= MOST_LEAVES) {
                return -1;
            }
            if (c >= 'a' && c - 'a' < variables) {
                tape.pass();
                leaves++;
                return addNode(VARIABLE, c - 'a', 0, 0);
            }
            int number = tape.takeNumber(255);
            if (number < 0) {
                return -1;
            }
            leaves++;
            return addNode(LITERAL, number & wordMask, 0, 0);
        }

        private int addNode(int kind, int word, int left, int right) {
            if (nodes >= MOST_NODES) {
                return nodes - 1;
            }
            kinds[nodes] = kind;
            words[nodes] = word;
            lefts[nodes] = left;
            rights[nodes] = right;
            nodes++;
            return nodes - 1;
        }

        int worth(int[] registers, int wordMask) {
            for (int n = 0; n < nodes; n++) {
                if (isVariable(n)) {
                    results[n] = registers[words[n] & 7];
                } else if (isLiteral(n)) {
                    results[n] = words[n];
                } else {
                    results[n] = Order.combine(kinds[n], results[lefts[n]], results[rights[n]], wordMask);
                }
            }
            return nodes > 0 ? results[root()] : 0;
        }
    }

    /** Covers a sum by the cheapest orders, and tells them as code. */
    private static final class Maker {
        // Above every price, and small enough that some sums of it don't go round.
        private static final int NEVER = 1000000;
        private static final int NOWHERE = -1;

        final Telling telling;
        Sum told = new Sum();
        Sum spare = new Sum();
        boolean isRead;
        int variableCount;
        final int[] prices = new int[Sum.MOST_NODES];
        final int[] picks = new int[Sum.MOST_NODES];
        final int[] into = new int[Sum.MOST_NODES];
        final int[] made = new int[PLACES];
        int madeCount;

        Maker(Telling telling) {
            this.telling = telling;
        }

        void useVariables(int v) {
            variableCount = v;
            isRead = false;
        }

        /** What can't be read leaves the sum as it was. */
        boolean readSum(Tape tape) {
            if (!spare.readFrom(tape, variableCount, telling.wordMask())) {
                return false;
            }
            Sum read = spare;
            spare = told;
            told = read;
            isRead = true;
            return true;
        }

        int priceOfSum() {
            int moveTicks = ticksOf(leastMove());
            for (int n = 0; n < told.nodes; n++) {
                if (told.isVariable(n)) {
                    prices[n] = 0;
                    picks[n] = NOWHERE;
                } else if (told.isLiteral(n)) {
                    picks[n] = leastLoad(told.words[n]);
                    prices[n] = ticksOf(picks[n]);
                } else {
                    findSignPrice(n, moveTicks);
                }
            }
            int price = told.isVariable(told.root()) ? moveTicks : prices[told.root()];
            return price < NEVER ? price : NONE;
        }

        private int ticksOf(int number) {
            Order order = telling.numbered(number);
            return order == null ? NEVER : order.ticks;
        }

        private static boolean hasRoomFor(Order order, int number) {
            return number < 1 << order.fieldBits(I);
        }

        private int leastLoad(int number) {
            int least = NOWHERE;
            for (int o = 0; o < telling.told; o++) {
                Order order = telling.orders[o];
                if (order.form == LOAD && hasRoomFor(order, number) && order.ticks < ticksOf(least)) {
                    least = o;
                }
            }
            return least;
        }

        private int leastMove() {
            int least = NOWHERE;
            for (int o = 0; o < telling.told; o++) {
                if (telling.orders[o].form == MOVE && telling.orders[o].ticks < ticksOf(least)) {
                    least = o;
                }
            }
            return least;
        }

        private void findSignPrice(int node, int moveTicks) {
            prices[node] = NEVER;
            picks[node] = NOWHERE;
            for (int o = 0; o < telling.told; o++) {
                Order order = telling.orders[o];
                if (order.form >= THREE && order.signs[0] == told.kinds[node]) {
                    int price = priceBy(order, node, moveTicks);
                    if (price < prices[node]) {
                        prices[node] = price;
                        picks[node] = o;
                    }
                }
            }
        }

        private int priceBy(Order order, int node, int moveTicks) {
            int left = told.lefts[node];
            int right = told.rights[node];
            int price = order.ticks + prices[left];
            if (takesRegister(order.form)) {
                price += prices[right];
            } else if (!told.isLiteral(right) || !hasRoomFor(order, told.words[right])) {
                return NEVER;
            }
            if (worksInPlace(order.form) && told.isVariable(left)) {
                price += moveTicks;
            }
            return Math.min(price, NEVER);
        }

        private static boolean takesRegister(int form) {
            return form == THREE || form == ONTO;
        }

        private static boolean worksInPlace(int form) {
            return form == ONTO || form == UPON;
        }

        int makeInto(int[] places, int place) {
            if (priceOfSum() == NONE) {
                return NONE;
            }
            chooseRegisters();
            madeCount = 0;
            for (int n = 0; n < told.nodes; n++) {
                if (into[n] != NOWHERE && !emit(n)) {
                    return FULL;
                }
            }
            if (place + madeCount > PLACES) {
                return FULL;
            }
            System.arraycopy(made, 0, places, place, madeCount);
            return madeCount;
        }

        /** Sides stand ahead of their sign: from the back each is told its register before it is looked at. */
        private void chooseRegisters() {
            Arrays.fill(into, NOWHERE);
            into[told.root()] = variableCount;
            for (int n = told.root(); n >= 0; n--) {
                Order order = telling.numbered(picks[n]);
                if (into[n] != NOWHERE && order != null && order.form >= THREE) {
                    chooseSides(n, order.form);
                }
            }
        }

        private void chooseSides(int node, int form) {
            int left = told.lefts[node];
            int right = told.rights[node];
            boolean leftStays = told.isVariable(left) && !worksInPlace(form);
            if (!leftStays) {
                into[left] = into[node];
            }
            if (takesRegister(form) && !told.isVariable(right)) {
                into[right] = leftStays ? into[node] : into[node] + 1;
            }
        }

        private int registerOf(int node) {
            return into[node] == NOWHERE ? told.words[node] : into[node];
        }

        private boolean emit(int node) {
            int number = told.isVariable(node) ? leastMove() : picks[node];
            Order order = telling.numbered(number);
            if (order == null || into[node] >= telling.registers() || madeCount >= PLACES) {
                return false;
            }
            int bits = order.withField(order.fixedBits, D, into[node]);
            if (order.form == MOVE) {
                bits = order.withField(bits, S, told.words[node]);
            } else if (order.form == LOAD) {
                bits = order.withField(bits, I, told.words[node]);
            } else {
                int left = told.lefts[node];
                int right = told.rights[node];
                bits = order.withField(bits, S, registerOf(order.form == ONTO ? right : left));
                bits = order.withField(bits, T, registerOf(right));
                bits = order.withField(bits, I, told.words[right]);
            }
            made[madeCount++] = bits;
            return true;
        }
    }

    /** Rows that may be missing. Items are kept as ints, cut to their lane when they are written. */
    private static final class Sheets {
        static final int SHEETS = 4, NO_LANE = -1;

        final int[] lanes = new int[SHEETS];
        final int[] sizes = new int[SHEETS];
        final int[][] rows = new int[SHEETS][MOST_ITEMS];

        Sheets() {
            Arrays.fill(lanes, NO_LANE);
        }

        static boolean isSheet(int sheet) {
            return sheet >= 0 && sheet < SHEETS;
        }

        static boolean isLane(int lane) {
            return lane >= 0 && lane <= 2;
        }

        /** What the machine finds where n items from one on are taken as a lane's; 0: nothing. */
        int refusal(int sheet, int lane, int from, int n) {
            if (lanes[sheet] == NO_LANE) {
                return NULL;
            }
            if (lanes[sheet] != lane) {
                return CAST;
            }
            return from < 0 || from > sizes[sheet] - n ? INDEX : 0;
        }

        int lay(int sheet, int lane, int n) {
            lanes[sheet] = lane;
            sizes[sheet] = n;
            Arrays.fill(rows[sheet], 0);
            return n;
        }

        int takeAway(int sheet) {
            if (lanes[sheet] == NO_LANE) {
                return NULL;
            }
            lanes[sheet] = NO_LANE;
            return sizes[sheet];
        }

        int write(int sheet, int i, int v) {
            switch (lanes[sheet]) {
                case 0: rows[sheet][i] = (byte) v; break;
                case 1: rows[sheet][i] = (short) v; break;
                default: rows[sheet][i] = v; break;
            }
            return 1;
        }
    }
}
