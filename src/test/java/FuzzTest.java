import java.lang.reflect.InvocationTargetException;
import java.lang.reflect.Method;
import java.util.ArrayList;
import java.util.List;

/** Promises 1 to 40 at once: thrown runs of calls, each answer held against PlainTold. */
public final class FuzzTest {
    private static final int RUNS = 250;
    private static final int CALLS = 512;
    private static final int[] EXTREMES = {Integer.MIN_VALUE, Integer.MAX_VALUE, -1, -2, 64, 65, 4096, 1 << 30, 256};

    private final Dice dice;
    private final OrdersTold x = new OrdersTold();
    private final PlainTold plain = new PlainTold();
    private final List<String> told = new ArrayList<>();
    private boolean wrong;
    private int calls;
    private int w = 8;
    private int k = 2;
    private int b = 8;

    private FuzzTest(long seed) {
        dice = new Dice(seed);
    }

    public static void main(String[] args) {
        Checks c = new Checks("fuzz");
        int wrongRuns = 0;
        for (int run = 0; run < RUNS && wrongRuns < 3; run++) {
            FuzzTest one = new FuzzTest(1000 + run);
            one.go();
            c.due("run " + run, one.wrong ? 1 : 0, 0);
            if (one.wrong) {
                wrongRuns++;
                one.told.forEach(System.out::println);
            }
        }
        c.end();
    }

    private static Method named(Class<?> type, String name) {
        for (Method method : type.getDeclaredMethods()) {
            if (method.getName().equals(name)
                    && !java.lang.reflect.Modifier.isPrivate(method.getModifiers())) {
                return method;
            }
        }
        throw new IllegalStateException(name);
    }

    /** The answer of both; a wrong one ends the run. */
    private int call(String name, Object... args) {
        calls++;
        try {
            int due = (Integer) named(PlainTold.class, name).invoke(plain, args);
            int got = (Integer) named(OrdersTold.class, name).invoke(x, args);
            StringBuilder row = new StringBuilder(name);
            for (Object arg : args) {
                row.append(' ').append(arg);
            }
            told.add(row + " -> " + got + (got == due ? "" : ", due is " + due));
            wrong |= got != due;
            return due;
        } catch (InvocationTargetException | IllegalAccessException e) {
            told.add(name + " threw " + e.getCause());
            wrong = true;
            return 0;
        }
    }

    private void type(String text) {
        String left = text.length() > 80 ? text.substring(0, 80) : text;
        told.add("    " + left);
        while (!left.isEmpty() && !wrong) {
            int n = Math.min(left.length(), dice.oneIn(10) ? dice.between(1, 8) : 8);
            long bytes = dice.oneIn(2) ? -1 : 0;
            for (char c : left.substring(0, n).toCharArray()) {
                bytes = bytes << 8 | c;
            }
            left = left.substring(n);
            if (call("type", bytes, n) < 0) {
                return;
            }
        }
    }

    private int some(int least, int most) {
        return dice.oneIn(40) ? EXTREMES[dice.below(EXTREMES.length)]
                : dice.oneIn(25) ? (dice.oneIn(2) ? least - 1 : most + 1) : dice.between(least, most);
    }

    private int someBits() {
        return dice.oneIn(3) ? codeOfSome() : some(0, (1 << b) - 1);
    }

    private int codeOfSome() {
        int count = x.count(0);
        if (count == 0) {
            return 0;
        }
        int least = x.about(dice.below(count), 5);
        int bits = least;
        for (int i = 0; i < b; i++) {
            int with = bits | 1 << i;
            if (dice.oneIn(2) && x.look(with) == x.look(least)) {
                bits = with;
            }
        }
        return bits;
    }

    private int someOrder() {
        return some(0, Math.max(0, x.count(0) - 1));
    }

    private String spoil(String text) {
        StringBuilder spoilt = new StringBuilder(text);
        if (dice.oneIn(3)) {
            for (int i = dice.below(6); i > 0; i--) {
                spoilt.insert(dice.below(spoilt.length() + 1), ' ');
            }
        }
        if (dice.oneIn(5)) {
            int at = dice.below(spoilt.length());
            switch (dice.below(3)) {
                case 0: spoilt.deleteCharAt(at); break;
                case 1: spoilt.insert(at, dice.of("abdstizp019:,=?![]+-&|^<()~A")); break;
                default: spoilt.setCharAt(at, dice.of("abdstizp019:,=?![]+-&|^<()~A")); break;
            }
        }
        return spoilt.toString();
    }

    private String someLook(String fields) {
        List<Character> bits = new ArrayList<>();
        for (char f : fields.toCharArray()) {
            int width = f == 'i' ? dice.between(1, Math.min(w, 5)) : k;
            for (int i = 0; i < width; i++) {
                bits.add(f);
            }
        }
        if (dice.oneIn(20)) {
            bits.add(dice.of("dsti"));
        }
        List<Character> fixed = new ArrayList<>();
        while (fixed.size() + bits.size() < b) {
            fixed.add(dice.of("01"));
        }
        fixed.addAll(bits);
        if (dice.oneIn(4)) {
            for (int i = fixed.size() - 1; i > 0; i--) {
                fixed.add(fixed.remove(dice.below(i + 1)));
            }
        }
        StringBuilder look = new StringBuilder();
        fixed.forEach(look::append);
        return look.toString();
    }

    private void tellOrder() {
        String name = String.valueOf(dice.of("abcdefghijklmnopqrstuvwxyz")) + (dice.oneIn(2) ? "" : dice.of("ab"))
                + (dice.oneIn(2) ? "" : dice.of("xy"));
        String[] fields = {"", "d", "i", "ds", "di", "ds", "di", "dst", "dsi", "dsti", "si"};
        String letters = fields[dice.below(fields.length)];
        String sign = String.valueOf(dice.of("+-&|^<"));
        String does;
        if (dice.oneIn(3) || !letters.startsWith("d") || letters.equals("d") || letters.equals("dsti")) {
            does = dice.does(letters, dice.between(1, dice.oneIn(2) ? 1 : 3));
        } else {
            String right = letters.substring(letters.length() - 1);
            does = letters.length() == 3 ? "d=s" + sign + right : dice.oneIn(2) ? "d=d" + sign + right : "d=" + right;
        }
        type(spoil(name + ":" + someLook(letters) + ":" + does + ":" + dice.between(1, 9)));
        call("order");
        if (dice.oneIn(3)) {
            call("shared");
        }
    }

    private String someSum(int leaves, int depth) {
        if (leaves == 1) {
            String leaf = dice.oneIn(3) ? String.valueOf(dice.oneIn(3) ? dice.below(300) : dice.below(8))
                    : String.valueOf((char) ('a' + dice.below(Math.max(1, x.count(3) + (dice.oneIn(20) ? 1 : 0)))));
            return depth > 0 && dice.oneIn(6) ? "(" + leaf + ")" : leaf;
        }
        int left = dice.between(1, leaves - 1);
        String one = someSum(left, depth - 1);
        String two = someSum(leaves - left, depth - 1);
        return (left > 1 && dice.oneIn(2) ? "(" + one + ")" : one) + dice.of(dice.oneIn(4) ? "+-&|^<" : "+-")
                + (leaves - left > 1 ? "(" + two + ")" : two);
    }

    private void trySum() {
        if (dice.oneIn(3)) {
            call("variables", some(1, 1 << k));
        }
        type(spoil(someSum(dice.oneIn(8) ? dice.between(18, 22) : dice.between(1, 6), 5)));
        call("sum");
        call("price");
        call("value");
        int place = some(0, 63);
        int made = call("make", place);
        for (int i = 0; i < made && !wrong; i++) {
            call("code", place + i);
        }
    }

    private void tryLine() {
        int bits = codeOfSome();
        int length = call("text", bits, -1);
        StringBuilder line = new StringBuilder();
        for (int i = 0; i < length; i++) {
            line.append((char) call("text", bits, i));
        }
        call("text", bits, length);
        call("text", someBits(), some(-1, 12));
        type(line.length() == 0 ? "a" : spoil(line.toString()));
        call("line");
    }

    private void lookAround() {
        for (int i = 0; i < 4; i++) {
            call("so", i);
        }
        for (int i = 0; i < 1 << k; i++) {
            call("get", 0, i);
        }
        call("get", 2, 0);
        call("get", 3, 0);
        call("get", some(0, 3), some(0, (1 << w) - 1));
    }

    private void tryLog() {
        int lane = dice.between(0, 2);
        int rows = dice.between(1, 5);
        call("sheet", 0, lane, 3 * rows + dice.below(3));
        int done = 0;
        for (int row = 0; row < rows && !wrong; row++) {
            int register = dice.below((1 << k) + (dice.oneIn(15) ? 1 : 0));
            call("item", 0, lane, 3 * row, x.get(3, 0) + (dice.oneIn(15) ? 1 : 0));
            call("item", 0, lane, 3 * row + 1, register);
            call("item", 0, lane, 3 * row + 2, x.get(0, register) + (dice.oneIn(15) ? 256 : 0));
            done += row + 1 < rows && call("run", 1) == 1 ? 1 : 0;
        }
        if (done > 0) {
            call("back", done);
        }
        call("log", 0, lane, 0, rows);
        call("log", some(0, 3), some(0, 2), some(0, 4), some(0, 10));
        lookAround();
    }

    private void begin() {
        int newW = dice.between(2, 8);
        int newK = dice.between(1, 3);
        int newB = dice.oneIn(3) ? dice.between(6, 12) : dice.between(9, 12);
        if (call("begin", newW, newK, newB) == 1) {
            w = newW;
            k = newK;
            b = newB;
        }
    }

    /** Orders that share nothing, most of them of the maker's forms. */
    private void tellManyForms() {
        w = dice.between(2, 8);
        k = dice.between(1, 2);
        b = 12;
        call("begin", w, k, b);
        int orders = dice.between(8, 22);
        for (int n = 0; n < orders && !wrong; n++) {
            String sign = String.valueOf(dice.of(dice.oneIn(2) ? "+-" : "+-&|^<"));
            String[] forms = {"d=i", "d=s", "d=s" + sign + "t", "d=s" + sign + "i", "d=d" + sign + "s", "d=d" + sign + "i",
                "d=t", "z=d" + sign + "s", "[d]=s", "d=[s]", "p=i", "?z,p=i", "d=s" + sign + "t,t=i", "s=d" + sign + "s"};
            String does = forms[dice.below(dice.oneIn(3) ? forms.length : 6)];
            StringBuilder look = new StringBuilder(Integer.toBinaryString(32 + n).substring(1));
            for (char f : "dst".toCharArray()) {
                look.append(does.indexOf(f) >= 0 ? String.valueOf(f).repeat(k) : "");
            }
            int width = Math.min(w, Math.min(dice.between(1, 3), b - look.length()));
            look.append(does.indexOf('i') >= 0 ? "i".repeat(width) : "");
            look.append("0".repeat(b - look.length()));
            type((char) ('a' + n) + ":" + look + ":" + does + ":" + dice.between(1, dice.oneIn(2) ? 2 : 9));
            call("order");
        }
    }

    /** A machine without holes, so that steps go on. */
    private void tellTen() {
        for (String text : Checks.TEN) {
            type(text);
            call("order");
        }
    }

    private void tellAny() {
        if (!dice.oneIn(4)) {
            begin();
        }
        int orders = dice.between(4, 26);
        for (int i = 0; i < orders && !wrong; i++) {
            tellOrder();
        }
    }

    private void go() {
        switch (dice.below(3)) {
            case 0: tellManyForms(); break;
            case 1: tellTen(); break;
            default: tellAny(); break;
        }
        for (int i = 0; i < 30 && !wrong; i++) {
            call("put", dice.between(0, dice.oneIn(2) ? 63 : 12), codeOfSome());
        }
        while (calls < CALLS - 40 && !wrong) {
            one();
        }
    }

    private void one() {
        switch (dice.below(34)) {
            case 0: case 1: tellOrder(); break;
            case 2: call("unorder"); break;
            case 3: call("about", someOrder(), some(0, 5)); break;
            case 4: call("look", someBits()); break;
            case 5: call("field", someBits(), some(0, 3)); break;
            case 6: call("holes"); call("hole", someBits()); break;
            case 7: call("count", some(0, 4)); break;
            case 8: narrow(); break;
            case 9: case 10: call("put", some(0, 63), someBits()); break;
            case 11: call("set", some(0, 3), some(0, 7), some(0, 63)); break;
            case 12: if (dice.oneIn(4)) { call("reset"); } break;
            case 13: case 14: case 15: case 16: call("run", dice.oneIn(3) ? some(1, 2000) : some(1, 12)); lookAround(); break;
            case 17: case 18: call("back", dice.oneIn(5) ? some(1, 100) : some(1, 8)); lookAround(); break;
            case 19: call("flush", some(0, 9)); call("so", some(0, 3)); break;
            case 20: case 21: tryLine(); break;
            case 22: case 23: case 24: trySum(); break;
            case 25: call("pairs", someOrder(), someOrder(), some(0, 64)); break;
            case 26: call("room", someOrder(), someOrder()); break;
            case 27: case 28: joinBest(); break;
            case 29: tryLog(); break;
            case 30: call("sheet", some(0, 3), some(0, 2), some(0, 30)); break;
            case 31: call("drop", some(0, 3)); break;
            case 32: tryLoad(); break;
            default: if (dice.oneIn(30)) { begin(); } else { call("begin", some(2, 8), 0, some(6, 12)); } break;
        }
    }

    private void narrow() {
        int order = someOrder();
        if (dice.oneIn(4)) {
            call("reads", order);
            call("writes", order);
            call("like", order, someOrder());
        }
    }

    private void joinBest() {
        int both = call("best", some(0, 64));
        if (dice.oneIn(2)) {
            type(spoil("j" + dice.of("abcdefgh")));
        }
        call("join", both >= 0 ? both / 20 : someOrder(), both >= 0 ? both % 20 : someOrder());
    }

    private void tryLoad() {
        int sheet = some(0, 3);
        int lane = some(0, 2);
        call("sheet", sheet, lane, some(0, 30));
        for (int i = 0; i < 5; i++) {
            call("item", sheet, lane, some(0, 8), someBits());
        }
        call("load", sheet, dice.oneIn(6) ? some(0, 2) : lane, some(0, 8), some(0, 63), some(0, 12));
        call("code", some(0, 63));
    }
}
