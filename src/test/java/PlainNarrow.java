import java.util.HashMap;
import java.util.Map;

/** The narrow machine gone through whole: every state, every i, every pair of states that differ in one store. */
final class PlainNarrow {
    // A state as a number: d, s, t, P, four words of memory, two bits each, from the lowest; then Z.
    private static final int STATES = 1 << 17;
    private static final String[] STORES = {"d", "s", "t", "p", "m0", "m1", "m2", "m3", "z"};
    private static final int[] TOLD = {1, 2, 4, 16, 32, 32, 32, 32, 8};
    private static final Map<String, int[][]> KNOWN = new HashMap<>();

    private PlainNarrow() {
    }

    private static int in(int state, int store) {
        return store == 8 ? state >> 16 & 1 : state >> 2 * store & 3;
    }

    private static int with(int state, int store, int v) {
        int mask = store == 8 ? 1 << 16 : 3 << 2 * store;
        return state & ~mask | v << (store == 8 ? 16 : 2 * store);
    }

    private static int storeNamed(String name) {
        for (int i = 0; i < STORES.length; i++) {
            if (STORES[i].equals(name)) {
                return i;
            }
        }
        throw new IllegalStateException("no store " + name);
    }

    /** Behind each state, for each i. */
    private static int[][] behind(PlainOrder order) {
        if (KNOWN.size() > 40) {
            KNOWN.clear();
        }
        return KNOWN.computeIfAbsent(order.does, does -> {
            int[][] table = new int[4][STATES];
            One one = new One();
            for (int i = 0; i < 4; i++) {
                for (int state = 0; state < STATES; state++) {
                    one.i = i;
                    one.state = state;
                    order.doOn(one);
                    table[i][state] = one.state;
                }
            }
            return table;
        });
    }

    private static final class One implements PlainOrder.Stores {
        int state;
        int i;

        private int address(String inBrackets) {
            return get(inBrackets.substring(1, 2));
        }

        @Override
        public int get(String operand) {
            char c = operand.charAt(0);
            if (c == '[') {
                return in(state, 4 + address(operand));
            }
            if (c == 'i') {
                return i;
            }
            return Character.isDigit(c) ? Integer.parseInt(operand) % 4 : in(state, storeNamed(operand));
        }

        @Override
        public void put(String target, int word) {
            if (target.startsWith("[")) {
                state = with(state, 4 + address(target), word);
            } else if (target.equals("z")) {
                state = with(state, 8, word == 0 ? 0 : 1);
            } else {
                state = with(state, storeNamed(target), word % 4);
            }
        }

        @Override
        public int words() {
            return 4;
        }
    }

    static int reads(PlainOrder order) {
        int told = 0;
        for (int store = 0; store < 9; store++) {
            if (readsStore(behind(order), store)) {
                told |= TOLD[store];
            }
        }
        return told;
    }

    private static boolean readsStore(int[][] table, int store) {
        int values = store == 8 ? 2 : 4;
        for (int i = 0; i < 4; i++) {
            for (int a = 0; a < STATES; a++) {
                for (int v = in(a, store) + 1; v < values; v++) {
                    int b = with(a, store, v);
                    int one = table[i][a];
                    int two = table[i][b];
                    if (with(one, store, 0) != with(two, store, 0)) {
                        return true;
                    }
                    boolean unlike = in(one, store) != in(two, store);
                    if (unlike && (in(one, store) != in(a, store) || in(two, store) != in(b, store))) {
                        return true;
                    }
                }
            }
        }
        return false;
    }

    static int writes(PlainOrder order) {
        int told = 0;
        for (int[] row : behind(order)) {
            for (int state = 0; state < STATES; state++) {
                for (int store = 0; row[state] != state && store < 9; store++) {
                    if (in(row[state], store) != in(state, store)) {
                        told |= TOLD[store];
                    }
                }
            }
        }
        return told;
    }

    static int like(PlainOrder a, PlainOrder b) {
        int[][] one = behind(a);
        int[][] two = behind(b);
        for (int i = 0; i < 4; i++) {
            for (int state = 0; state < STATES; state++) {
                if (one[i][state] != two[i][state]) {
                    return 0;
                }
            }
        }
        return 1;
    }
}
