/** What the tests share: calls are held against the answers that are due, and every wrong one is printed. */
final class Checks {
    private final String title;
    private int wrong;
    private int asked;

    Checks(String title) {
        this.title = title;
    }

    void due(String call, long got, long want) {
        asked++;
        if (got != want) {
            wrong++;
            System.out.println(title + ": " + call + " answered " + got + ", due is " + want);
        }
    }

    /** Ends the test: exit code 1 if an answer was wrong. */
    void end() {
        System.out.println(title + ": " + asked + " answers, " + wrong + " wrong");
        if (wrong > 0 || asked == 0) {
            System.exit(1);
        }
    }

    /** Types a text onto the tape, eight bytes a call. */
    static void type(OrdersTold x, String text) {
        for (int from = 0; from < text.length(); from += 8) {
            int n = Math.min(8, text.length() - from);
            long w = 0;
            for (int i = 0; i < n; i++) {
                w = w << 8 | text.charAt(from + i);
            }
            int has = x.type(w, n);
            if (has < 0) {
                throw new IllegalStateException("type answered " + has + " for " + text);
            }
        }
    }

    static int order(OrdersTold x, String text) {
        type(x, text);
        return x.order();
    }

    /** An object of some W, K, B with orders told; throws, if one is refused. */
    static OrdersTold told(int w, int k, int b, String... orders) {
        OrdersTold x = new OrdersTold();
        x.begin(w, k, b);
        for (String text : orders) {
            int number = order(x, text);
            if (number < 0) {
                throw new IllegalStateException("order answered " + number + " for " + text);
            }
        }
        return x;
    }

    static int line(OrdersTold x, String text) {
        type(x, text);
        return x.line();
    }

    static int sum(OrdersTold x, String text) {
        type(x, text);
        return x.sum();
    }

    static int join(OrdersTold x, String name, int a, int b) {
        type(x, name);
        return x.join(a, b);
    }

    /** The line of bits as a text; the empty text if there is none. */
    static String text(OrdersTold x, int bits) {
        int length = x.text(bits, -1);
        StringBuilder line = new StringBuilder();
        for (int k = 0; k < length; k++) {
            line.append((char) x.text(bits, k));
        }
        return line.toString();
    }

    /** The machine that most tests use: W 8, K 2, B 8, ten orders, no holes. */
    static final String[] TEN = {
        "add:00ddsstt:d=s+t:1", "ldi:010ddiii:d=i:2", "mov:0110ddss:d=s:1", "sub:0111ddss:d=d-s:3",
        "inc:10ddiiii:d=d+i:2", "ld:1100ddss:d=[s]:4", "st:1101ddss:[d]=s,z=s:3", "jz:11100iii:?z,p=i:1",
        "cmp:1111ddss:z=d<s:1", "jp:11101iii:?!z,p=p+i:2"};

    static OrdersTold ten() {
        OrdersTold x = new OrdersTold();
        for (String text : TEN) {
            order(x, text);
        }
        return x;
    }
}
