import java.math.BigInteger;
import java.util.ArrayDeque;
import java.util.ArrayList;
import java.util.Arrays;
import java.util.Deque;
import java.util.HashMap;
import java.util.HashSet;
import java.util.List;
import java.util.Map;
import java.util.Set;
import java.util.regex.Matcher;
import java.util.regex.Pattern;

/**
 * The document once more, by other means than the class: texts are held against patterns, states are kept whole,
 * sheets are arrays of their lane. Slow; the class is held against it by FuzzTest.
 */
final class PlainTold {
    private static final int BAD = -1, NOT = -2, FULL = -3, NONE = -4, STOP = -5, NULL = -11, CAST = -12, INDEX = -13,
            SIZE = -14;

    private int w;
    private int k;
    private int b;
    private String tape = "";
    private List<PlainOrder> orders;
    private int shared;
    private int[] code;
    private State state;
    private Deque<State> past;
    private PlainOrder justAhead;
    private Set<String> justAheadTargets;
    private int flush;
    private int variables;
    private Node sum;
    private final Object[] sheets = new Object[4];

    PlainTold() {
        begin(8, 2, 8);
    }

    int begin(int w, int k, int b) {
        if (w < 2 || w > 8 || k < 1 || k > 3 || b < 6 || b > 12) {
            return BAD;
        }
        this.w = w;
        this.k = k;
        this.b = b;
        orders = new ArrayList<>();
        shared = NONE;
        code = new int[64];
        flush = 2;
        variables = 1;
        sum = null;
        reset();
        return 1;
    }

    private int words() {
        return 1 << w;
    }

    private int registers() {
        return 1 << k;
    }

    private boolean isBits(int bits) {
        return bits >= 0 && bits < 1 << b;
    }

    private boolean isOrder(int n) {
        return n >= 0 && n < orders.size();
    }

    private PlainOrder orderOf(int bits) {
        for (PlainOrder order : orders) {
            if (order.isOf(bits)) {
                return order;
            }
        }
        return null;
    }

    // ---- texts

    int type(long w, int n) {
        if (n < 1 || n > 8) {
            return BAD;
        }
        StringBuilder text = new StringBuilder();
        for (int i = n - 1; i >= 0; i--) {
            text.append((char) (w >> 8 * i & 255));
        }
        if (!text.toString().matches("[ -~]*")) {
            return BAD;
        }
        if (tape.length() + n > 80) {
            return FULL;
        }
        tape += text;
        return tape.length();
    }

    private String takeTape() {
        String text = tape;
        tape = "";
        return text;
    }

    /** The first place whose byte makes the text unable to become what a pattern wants; its length: it ends too soon. */
    private static int firstWrong(String pattern, String text) {
        Pattern wanted = Pattern.compile(pattern.replace("_", " *"));
        for (int end = 1; end <= text.length(); end++) {
            Matcher matcher = wanted.matcher(text.substring(0, end));
            if (!matcher.matches() && !matcher.hitEnd()) {
                return end - 1;
            }
        }
        return wanted.matcher(text).matches() ? Integer.MAX_VALUE : text.length();
    }

    private static int firstBeyond(String text, int from, int to, int most) {
        Matcher numbers = Pattern.compile("[0-9]+").matcher(text);
        numbers.region(Math.min(from, text.length()), Math.min(to, text.length()));
        while (numbers.find()) {
            if (new BigInteger(numbers.group()).compareTo(BigInteger.valueOf(most)) > 0) {
                return numbers.start();
            }
        }
        return Integer.MAX_VALUE;
    }

    private PlainOrder orderNamed(String name) {
        for (PlainOrder order : orders) {
            if (order.name.equals(name)) {
                return order;
            }
        }
        return null;
    }

    private int newNameFault(String text) {
        Matcher name = Pattern.compile(" *([a-z]{1,3})").matcher(text);
        return name.lookingAt() && orderNamed(name.group(1)) != null ? name.start(1) : Integer.MAX_VALUE;
    }

    private int orderFault(String text) {
        String head = "_[a-z]{1,3}_:(?:_[01dsti]){" + b + "}_:";
        int wrong = Math.min(firstWrong(head + "[ -~]*", text), newNameFault(text));
        if (wrong < Integer.MAX_VALUE) {
            return wrong;
        }
        int lookStart = text.indexOf(':') + 1;
        int lookEnd = text.indexOf(':', lookStart);
        String look = text.substring(lookStart, lookEnd);
        for (char f : "dst".toCharArray()) {
            int times = count(look, f);
            if (times != 0 && times != k) {
                return lookEnd;
            }
        }
        if (count(look, 'i') > w) {
            return lookEnd;
        }
        int does = text.indexOf(':', lookEnd + 1);
        wrong = firstWrong(head + doesPattern(look) + ":_[1-9]_", text);
        return Math.min(wrong, firstBeyond(text, lookEnd, does < 0 ? text.length() : does, 255));
    }

    private static int count(String text, char c) {
        return text.length() - text.replace(String.valueOf(c), "").length();
    }

    private static String doesPattern(String look) {
        StringBuilder registers = new StringBuilder();
        for (char f : "dst".toCharArray()) {
            registers.append(count(look, f) > 0 ? String.valueOf(f) : "");
        }
        String fields = registers + (count(look, 'i') > 0 ? "i" : "");
        // '#' is in no text that gets here by chance and names nothing: an empty class is no pattern.
        String memory = fields.isEmpty() ? "\\[_#_\\]" : "\\[_[" + fields + "]_\\]";
        String target = "(?:[zp" + registers + "]|" + memory + ")";
        String operand = "(?:[zp" + fields + "]|[0-9]+|" + memory + ")";
        String act = "_" + target + "_=_" + operand + "_(?:[-+&|^<]_" + operand + "_)?";
        return "_(?:\\?_!?_[z" + registers + "]_,)?" + act + "(?:," + act + "){0,2}";
    }

    int order() {
        String text = takeTape();
        int fault = orderFault(text);
        if (fault < Integer.MAX_VALUE) {
            return -20 - fault;
        }
        PlainOrder order = PlainOrder.of(text);
        for (int bits = 0; bits < 1 << b; bits++) {
            if (order.isOf(bits) && orderOf(bits) != null) {
                shared = bits * 32 + orders.indexOf(orderOf(bits));
                return NOT;
            }
        }
        return add(order);
    }

    private int add(PlainOrder order) {
        if (orders.size() == 20) {
            return FULL;
        }
        orders.add(order);
        return orders.size() - 1;
    }

    int shared() {
        return shared;
    }

    int unorder() {
        if (orders.isEmpty()) {
            return NOT;
        }
        orders.remove(orders.size() - 1);
        return orders.size();
    }

    int about(int order, int what) {
        if (!isOrder(order) || what < 0 || what > 5) {
            return BAD;
        }
        PlainOrder told = orders.get(order);
        int fields = 0;
        for (int f = 0; f < 4; f++) {
            fields += told.has("dsti".charAt(f)) ? 1 << f : 0;
        }
        int least = 0;
        while (!told.isOf(least)) {
            least++;
        }
        return new int[] {told.ticks, told.acts.size(), told.guardKind(), fields, told.widthOf('i'), least}[what];
    }

    int look(int bits) {
        return !isBits(bits) ? BAD : orderOf(bits) == null ? NONE : orders.indexOf(orderOf(bits));
    }

    int field(int bits, int f) {
        if (!isBits(bits) || f < 0 || f > 3) {
            return BAD;
        }
        char letter = "dsti".charAt(f);
        PlainOrder told = orderOf(bits);
        return told == null || !told.has(letter) ? NONE : told.fieldOf(bits, letter);
    }

    int holes() {
        int holes = 0;
        for (int bits = 0; bits < 1 << b; bits++) {
            holes += orderOf(bits) == null ? 1 : 0;
        }
        return holes;
    }

    int hole(int from) {
        if (!isBits(from)) {
            return BAD;
        }
        for (int bits = from; bits < 1 << b; bits++) {
            if (orderOf(bits) == null) {
                return bits;
            }
        }
        return NONE;
    }

    int count(int what) {
        return what < 0 || what > 4 ? BAD
                : new int[] {orders.size(), registers(), words(), variables, flush}[what];
    }

    int reads(int order) {
        return isOrder(order) ? PlainNarrow.reads(orders.get(order)) : BAD;
    }

    int writes(int order) {
        return isOrder(order) ? PlainNarrow.writes(orders.get(order)) : BAD;
    }

    int like(int a, int b) {
        return isOrder(a) && isOrder(b) ? PlainNarrow.like(orders.get(a), orders.get(b)) : BAD;
    }

    // ---- steps

    private final class State implements PlainOrder.Stores {
        int[] registers = new int[8];
        int[] memory = new int[256];
        int z;
        int p;
        int[] guesses = new int[64];
        int[] so = new int[4];
        PlainOrder doing;
        int doingBits;

        State copy() {
            State copy = new State();
            copy.registers = registers.clone();
            copy.memory = memory.clone();
            copy.z = z;
            copy.p = p;
            copy.guesses = guesses.clone();
            copy.so = so.clone();
            return copy;
        }

        private int registerOf(String letter) {
            return doing.fieldOf(doingBits, letter.charAt(0));
        }

        @Override
        public int get(String operand) {
            switch (operand.charAt(0)) {
                case 'd': case 's': case 't': return registers[registerOf(operand)];
                case 'i': return doing.fieldOf(doingBits, 'i');
                case 'z': return z;
                case 'p': return p % PlainTold.this.words();
                case '[': return memory[get(operand.substring(1, 2))];
                default: return Integer.parseInt(operand) % PlainTold.this.words();
            }
        }

        @Override
        public void put(String target, int word) {
            switch (target.charAt(0)) {
                case 'z': z = word != 0 ? 1 : 0; break;
                case 'p': p = word % 64; break;
                case '[': memory[get(target.substring(1, 2))] = word; break;
                default: registers[registerOf(target)] = word; break;
            }
        }

        @Override
        public int words() {
            return PlainTold.this.words();
        }

        boolean step() {
            doing = orderOf(code[p]);
            if (doing == null) {
                return false;
            }
            doingBits = code[p];
            p = (p + 1) % 64;
            doing.doOn(this);
            return true;
        }

        Set<String> stores(List<String> letters) {
            Set<String> stores = new HashSet<>();
            for (String letter : letters) {
                if (letter.equals("z") || letter.equals("memory")) {
                    stores.add(letter);
                } else if ("dst".contains(letter)) {
                    stores.add("register " + registerOf(letter));
                }
            }
            return stores;
        }
    }

    int put(int place, int bits) {
        if (place < 0 || place > 63 || !isBits(bits)) {
            return BAD;
        }
        int was = code[place];
        code[place] = bits;
        return was;
    }

    int code(int place) {
        return place < 0 || place > 63 ? BAD : code[place];
    }

    int set(int what, int i, int v) {
        int was = get(what, i);
        int most = what == 2 ? 1 : what == 3 ? 63 : words() - 1;
        if (was == BAD || v < 0 || v > most) {
            return BAD;
        }
        switch (what) {
            case 0: state.registers[i] = v; break;
            case 1: state.memory[i] = v; break;
            case 2: state.z = v; break;
            default: state.p = v; break;
        }
        past = new ArrayDeque<>();
        justAhead = null;
        return was;
    }

    int get(int what, int i) {
        switch (what) {
            case 0: return i < 0 || i >= registers() ? BAD : state.registers[i];
            case 1: return i < 0 || i >= words() ? BAD : state.memory[i];
            case 2: return state.z;
            case 3: return state.p;
            default: return BAD;
        }
    }

    int reset() {
        state = new State();
        for (int i = 0; i < 64; i++) {
            state.guesses[i] = (i + 1) % 64;
        }
        past = new ArrayDeque<>();
        justAhead = null;
        return 1;
    }

    int run(int n) {
        if (n < 1 || n > 2000) {
            return BAD;
        }
        int done = 0;
        while (done < n && stepOn()) {
            done++;
        }
        return done == 0 ? STOP : done;
    }

    private boolean stepOn() {
        State ahead = state.copy();
        int place = state.p;
        if (!state.step()) {
            return false;
        }
        past.addLast(ahead);
        if (past.size() > 100) {
            past.removeFirst();
        }
        state.so[0]++;
        state.so[1] += state.doing.ticks;
        Set<String> named = state.stores(state.doing.named());
        if (justAhead != null && justAhead.ticks > 1) {
            named.retainAll(justAheadTargets);
            if (!named.isEmpty()) {
                state.so[1] += justAhead.ticks - 1;
                state.so[2] += justAhead.ticks - 1;
            }
        }
        justAhead = state.doing;
        justAheadTargets = state.stores(state.doing.targets());
        if (state.guesses[place] != state.p) {
            state.guesses[place] = state.p;
            state.so[1] += flush;
            state.so[3]++;
        }
        return true;
    }

    int back(int n) {
        if (n < 1 || n > 100) {
            return BAD;
        }
        if (n > past.size()) {
            return NOT;
        }
        for (int i = 0; i < n; i++) {
            state = past.removeLast();
        }
        justAhead = null;
        return past.size();
    }

    int so(int what) {
        return what < 0 || what > 3 ? BAD : state.so[what];
    }

    int flush(int f) {
        if (f < 0 || f > 9) {
            return BAD;
        }
        int was = flush;
        flush = f;
        return was;
    }

    // ---- lines and sums

    int line() {
        String text = takeTape();
        Matcher name = Pattern.compile(" *([a-z]{0,3})").matcher(text);
        name.lookingAt();
        PlainOrder told = orderNamed(name.group(1));
        if (told == null) {
            return -20 - name.start(1);
        }
        StringBuilder fields = new StringBuilder();
        for (char f : "dsti".toCharArray()) {
            fields.append(told.has(f) ? String.valueOf(f) : "");
        }
        String numbers = "_[0-9]+_,".repeat(fields.length());
        String rest = " ".repeat(name.end(1)) + text.substring(name.end(1));
        int wrong = firstWrong(numbers.isEmpty() ? "_" : numbers.substring(0, numbers.length() - 1), rest);
        Map<Character, Integer> values = new HashMap<>();
        Matcher number = Pattern.compile("[0-9]+").matcher(rest);
        for (int f = 0; f < fields.length() && number.find() && number.start() < wrong; f++) {
            int most = (1 << told.widthOf(fields.charAt(f))) - 1;
            if (firstBeyond(rest, number.start(), number.end(), most) < Integer.MAX_VALUE) {
                return -20 - number.start();
            }
            values.put(fields.charAt(f), new BigInteger(number.group()).intValue());
        }
        return wrong < Integer.MAX_VALUE ? -20 - wrong : told.bitsWith(values);
    }

    int text(int bits, int k) {
        if (!isBits(bits) || k < -1) {
            return BAD;
        }
        PlainOrder told = orderOf(bits);
        if (told == null) {
            return NONE;
        }
        List<String> numbers = new ArrayList<>();
        for (char f : "dsti".toCharArray()) {
            if (told.has(f)) {
                numbers.add(String.valueOf(told.fieldOf(bits, f)));
            }
        }
        String line = told.name + (numbers.isEmpty() ? "" : " " + String.join(",", numbers));
        return k == -1 ? line.length() : k < line.length() ? line.charAt(k) : BAD;
    }

    int variables(int v) {
        if (v < 1 || v > registers()) {
            return BAD;
        }
        int was = variables;
        variables = v;
        sum = null;
        return was;
    }

    private static final class Node {
        final String leaf;
        final char sign;
        final Node left;
        final Node right;

        Node(String leaf, char sign, Node left, Node right) {
            this.leaf = leaf;
            this.sign = sign;
            this.left = left;
            this.right = right;
        }

        boolean isVariable() {
            return leaf != null && Character.isLetter(leaf.charAt(0));
        }

        boolean isNumber() {
            return leaf != null && !isVariable();
        }
    }

    int sum() {
        String text = takeTape();
        String leaf = "[a-" + (char) ('a' + variables - 1) + "]|[0-9]+";
        String pattern = "";
        for (int depth = 0; depth <= 6; depth++) {
            String word = "(?:" + leaf + (depth == 0 ? "" : "|\\(" + pattern + "\\)") + ")";
            pattern = "_" + word + "_(?:[-+&|^<]_" + word + "_)*";
        }
        int wrong = Math.min(firstWrong(pattern, text), firstBeyond(text, 0, text.length(), 255));
        Matcher leaves = Pattern.compile("[a-z]|[0-9]+").matcher(text);
        int count = 0;
        while (leaves.find()) {
            count++;
            if (count == 21) {
                wrong = Math.min(wrong, leaves.start());
            }
        }
        if (wrong < Integer.MAX_VALUE) {
            return -20 - wrong;
        }
        sum = treeOf(text.replace(" ", ""));
        return count;
    }

    /** The latest sign outside of all ( ) binds last. */
    private Node treeOf(String text) {
        int depth = 0;
        for (int i = text.length() - 1; i >= 0; i--) {
            char c = text.charAt(i);
            depth += c == ')' ? 1 : c == '(' ? -1 : 0;
            if (depth == 0 && "+-&|^<".indexOf(c) >= 0) {
                return new Node(null, c, treeOf(text.substring(0, i)), treeOf(text.substring(i + 1)));
            }
        }
        return text.startsWith("(") ? treeOf(text.substring(1, text.length() - 1)) : new Node(text, ' ', null, null);
    }

    private int numberOf(Node node) {
        return Integer.parseInt(node.leaf) % words();
    }

    int value() {
        return sum == null ? NOT : valueOf(sum);
    }

    private int valueOf(Node node) {
        if (node.isVariable()) {
            return state.registers[node.leaf.charAt(0) - 'a'];
        }
        return node.isNumber() ? numberOf(node)
                : PlainOrder.combine(node.sign, valueOf(node.left), valueOf(node.right), words());
    }

    /** Whether an order does just this, and its LOOK has just these fields. */
    private static boolean isForm(PlainOrder order, String does, String fields) {
        for (char f : "dsti".toCharArray()) {
            if (order.has(f) != (fields.indexOf(f) >= 0)) {
                return false;
            }
        }
        return order.does.equals(does);
    }

    private PlainOrder least(String does, String fields, int number) {
        PlainOrder least = null;
        for (PlainOrder order : orders) {
            boolean fits = number < 0 || number < 1 << order.widthOf('i');
            if (isForm(order, does, fields) && fits && (least == null || order.ticks < least.ticks)) {
                least = order;
            }
        }
        return least;
    }

    private static final class Cover {
        final PlainOrder order;
        final int price;

        Cover(PlainOrder order, int price) {
            this.order = order;
            this.price = price;
        }
    }

    private Cover coverOf(Node node) {
        if (node.isVariable()) {
            return new Cover(null, 0);
        }
        if (node.isNumber()) {
            PlainOrder load = least("d=i", "di", numberOf(node));
            return load == null ? null : new Cover(load, load.ticks);
        }
        Cover left = coverOf(node.left);
        if (left == null) {
            return null;
        }
        Cover right = coverOf(node.right);
        PlainOrder move = least("d=s", "ds", -1);
        Cover best = null;
        for (PlainOrder order : orders) {
            int price = left.price + order.ticks;
            boolean three = isForm(order, "d=s" + node.sign + "t", "dst");
            boolean with = isForm(order, "d=s" + node.sign + "i", "dsi");
            boolean onto = isForm(order, "d=d" + node.sign + "s", "ds");
            boolean upon = isForm(order, "d=d" + node.sign + "i", "di");
            if (three || onto) {
                if (right == null) {
                    continue;
                }
                price += right.price;
            } else if (!with && !upon || !node.right.isNumber() || numberOf(node.right) >= 1 << order.widthOf('i')) {
                continue;
            }
            if ((onto || upon) && node.left.isVariable()) {
                if (move == null) {
                    continue;
                }
                price += move.ticks;
            }
            if (best == null || price < best.price) {
                best = new Cover(order, price);
            }
        }
        return best;
    }

    int price() {
        if (sum == null) {
            return NOT;
        }
        if (sum.isVariable()) {
            PlainOrder move = least("d=s", "ds", -1);
            return move == null ? NONE : move.ticks;
        }
        Cover cover = coverOf(sum);
        return cover == null ? NONE : cover.price;
    }

    int make(int place) {
        if (place < 0 || place > 63) {
            return BAD;
        }
        int price = price();
        if (price < 0) {
            return price;
        }
        List<Integer> made = new ArrayList<>();
        boolean fits = sum.isVariable() ? move(made, variables, sum.leaf.charAt(0) - 'a') : make(made, sum, variables);
        if (!fits || place + made.size() > 64) {
            return FULL;
        }
        for (int i = 0; i < made.size(); i++) {
            code[place + i] = made.get(i);
        }
        return made.size();
    }

    private boolean emit(List<Integer> made, PlainOrder order, int d, int s, int t, int i) {
        if (d >= registers() || order.has('s') && s >= registers() || order.has('t') && t >= registers()) {
            return false;
        }
        made.add(order.bitsWith(Map.of('d', d, 's', s, 't', t, 'i', i)));
        return true;
    }

    private boolean move(List<Integer> made, int d, int s) {
        return emit(made, least("d=s", "ds", -1), d, s, 0, 0);
    }

    private boolean make(List<Integer> made, Node node, int x) {
        PlainOrder order = coverOf(node).order;
        if (node.isNumber()) {
            return emit(made, order, x, 0, 0, numberOf(node));
        }
        boolean inPlace = order.does.startsWith("d=d");
        int left = x;
        if (node.left.isVariable() && inPlace) {
            if (!move(made, x, node.left.leaf.charAt(0) - 'a')) {
                return false;
            }
        } else if (node.left.isVariable()) {
            left = node.left.leaf.charAt(0) - 'a';
        } else if (!make(made, node.left, x)) {
            return false;
        }
        if (order.has('i')) {
            return emit(made, order, x, left, 0, numberOf(node.right));
        }
        int right = node.left.isVariable() && !inPlace ? x : x + 1;
        if (node.right.isVariable()) {
            right = node.right.leaf.charAt(0) - 'a';
        } else if (!make(made, node.right, right)) {
            return false;
        }
        return emit(made, order, x, inPlace ? right : left, right, 0);
    }

    // ---- pairs and logs

    int pairs(int a, int b, int end) {
        if (!isOrder(a) || !isOrder(b) || end < 0 || end > 64) {
            return BAD;
        }
        int pairs = 0;
        int x = 0;
        while (x + 1 < end) {
            if (isPair(orders.get(a), orders.get(b), x)) {
                pairs++;
                x += 2;
            } else {
                x++;
            }
        }
        return pairs;
    }

    private boolean isPair(PlainOrder a, PlainOrder b, int x) {
        if (orderOf(code[x]) != a || orderOf(code[x + 1]) != b) {
            return false;
        }
        for (char f : "dsti".toCharArray()) {
            if (a.has(f) && b.has(f) && a.fieldOf(code[x], f) != b.fieldOf(code[x + 1], f)) {
                return false;
            }
        }
        return true;
    }

    private String fieldsOfBoth(PlainOrder a, PlainOrder b) {
        StringBuilder fields = new StringBuilder();
        for (char f : "dsti".toCharArray()) {
            fields.append(String.valueOf(f).repeat(Math.max(a.widthOf(f), b.widthOf(f))));
        }
        return fields.toString();
    }

    int room(int a, int b) {
        if (!isOrder(a) || !isOrder(b)) {
            return BAD;
        }
        PlainOrder one = orders.get(a);
        PlainOrder two = orders.get(b);
        if (one.does.contains("?") || two.does.contains("?") || one.does.contains("p") || two.does.contains("p")
                || one.acts.size() + two.acts.size() > 3 || one.ticks + two.ticks > 10
                || one.has('i') && two.has('i') && one.widthOf('i') != two.widthOf('i')) {
            return NOT;
        }
        int f = fieldsOfBoth(one, two).length();
        for (int start = 0; f < this.b && start < 1 << this.b; start += 1 << f) {
            int holes = 0;
            while (holes < 1 << f && orderOf(start + holes) == null) {
                holes++;
            }
            if (holes == 1 << f) {
                return start;
            }
        }
        return NOT;
    }

    int best(int end) {
        if (end < 0 || end > 64) {
            return BAD;
        }
        int best = NONE;
        int most = 0;
        for (int both = 0; both < 400; both++) {
            if (isOrder(both / 20) && isOrder(both % 20) && pairs(both / 20, both % 20, end) > most
                    && room(both / 20, both % 20) >= 0) {
                best = both;
                most = pairs(both / 20, both % 20, end);
            }
        }
        return best;
    }

    int join(int a, int b) {
        if (!isOrder(a) || !isOrder(b)) {
            return BAD;
        }
        String name = takeTape();
        int wrong = Math.min(firstWrong("_[a-z]{1,3}_", name), newNameFault(name));
        if (wrong < Integer.MAX_VALUE) {
            return -20 - wrong;
        }
        int room = room(a, b);
        if (room < 0) {
            return NOT;
        }
        PlainOrder one = orders.get(a);
        PlainOrder two = orders.get(b);
        String fields = fieldsOfBoth(one, two);
        String bits = Integer.toBinaryString((1 << this.b) + room).substring(1);
        String look = bits.substring(0, this.b - fields.length()) + fields;
        return add(new PlainOrder(name.trim(), look, one.does + "," + two.does, one.ticks + two.ticks - 1));
    }

    /** What the machine finds: the row is taken as it would be in Java. */
    private int[] taken(int sheet, int lane, int from, int n) {
        Object row = sheets[sheet];
        if (row == null) {
            return new int[] {NULL};
        }
        List<Integer> all = new ArrayList<>();
        if (lane == 0 && row instanceof byte[]) {
            for (byte item : (byte[]) row) {
                all.add((int) item);
            }
        } else if (lane == 1 && row instanceof short[]) {
            for (short item : (short[]) row) {
                all.add((int) item);
            }
        } else if (lane == 2 && row instanceof int[]) {
            for (int item : (int[]) row) {
                all.add(item);
            }
        } else {
            return new int[] {CAST};
        }
        if (from < 0 || (long) from + n > all.size()) {
            return new int[] {INDEX};
        }
        int[] items = new int[n + 1];
        for (int i = 0; i < n; i++) {
            items[i + 1] = all.get(from + i);
        }
        return items;
    }

    private static boolean isRow(int sheet, int lane) {
        return sheet >= 0 && sheet < 4 && lane >= 0 && lane < 3;
    }

    int log(int sheet, int lane, int from, int n) {
        if (!isRow(sheet, lane) || n < 0 || n > 10) {
            return BAD;
        }
        int[] items = taken(sheet, lane, from, 3 * n);
        if (items[0] < 0) {
            return items[0];
        }
        State trial = state.copy();
        for (int row = 0; row < n; row++) {
            if (row > 0 && !trial.step()) {
                return row;
            }
            int[] told = Arrays.copyOfRange(items, 1 + 3 * row, 4 + 3 * row);
            boolean there = told[1] >= 0 && told[1] < registers();
            if (told[0] != trial.p || !there || told[2] != trial.registers[told[1]]) {
                return row;
            }
        }
        return n;
    }

    int load(int sheet, int lane, int from, int place, int n) {
        if (!isRow(sheet, lane) || n < 0 || n > 30 || place < 0 || place > 63 || place + n > 64) {
            return BAD;
        }
        int[] items = taken(sheet, lane, from, n);
        if (items[0] < 0) {
            return items[0];
        }
        for (int i = 1; i <= n; i++) {
            if (!isBits(items[i])) {
                return NOT;
            }
        }
        System.arraycopy(items, 1, code, place, n);
        return n;
    }

    int sheet(int sheet, int lane, int n) {
        if (!isRow(sheet, lane) || n > 30) {
            return BAD;
        }
        if (n < 0) {
            return SIZE;
        }
        sheets[sheet] = lane == 0 ? new byte[n] : lane == 1 ? new short[n] : (Object) new int[n];
        return n;
    }

    int drop(int sheet) {
        if (!isRow(sheet, 0)) {
            return BAD;
        }
        if (sheets[sheet] == null) {
            return NULL;
        }
        int had = java.lang.reflect.Array.getLength(sheets[sheet]);
        sheets[sheet] = null;
        return had;
    }

    int item(int sheet, int lane, int i, int v) {
        if (!isRow(sheet, lane)) {
            return BAD;
        }
        int[] found = taken(sheet, lane, i, 1);
        if (found[0] < 0) {
            return found[0];
        }
        if (lane == 0) {
            ((byte[]) sheets[sheet])[i] = (byte) v;
        } else if (lane == 1) {
            ((short[]) sheets[sheet])[i] = (short) v;
        } else {
            ((int[]) sheets[sheet])[i] = v;
        }
        return 1;
    }
}
