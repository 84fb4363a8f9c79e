import java.util.ArrayList;
import java.util.HashMap;
import java.util.List;
import java.util.Map;

/** An order as its text without blanks, done by looking at the text again and again: slow, and plain. */
final class PlainOrder {
    final String name;
    final String look;
    final String does;
    final int ticks;
    final String guard;
    final List<String[]> acts = new ArrayList<>();

    PlainOrder(String name, String look, String does, int ticks) {
        this.name = name;
        this.look = look;
        this.does = does;
        this.ticks = ticks;
        String rest = does;
        if (rest.startsWith("?")) {
            guard = rest.substring(0, rest.indexOf(','));
            rest = rest.substring(rest.indexOf(',') + 1);
        } else {
            guard = "";
        }
        for (String act : rest.split(",")) {
            String target = act.substring(0, act.indexOf('='));
            String[] sides = act.substring(act.indexOf('=') + 1).split("((?=[-+&|^<])|(?<=[-+&|^<]))");
            acts.add(sides.length == 1
                    ? new String[] {target, sides[0]} : new String[] {target, sides[0], sides[1], sides[2]});
        }
    }

    static PlainOrder of(String text) {
        String[] parts = text.replace(" ", "").split(":");
        return new PlainOrder(parts[0], parts[1], parts[2], Integer.parseInt(parts[3]));
    }

    int guardKind() {
        return guard.isEmpty() ? 0 : guard.startsWith("?!") ? 2 : 1;
    }

    String guardOn() {
        return guard.replace("?", "").replace("!", "");
    }

    boolean has(char field) {
        return look.indexOf(field) >= 0;
    }

    int widthOf(char field) {
        return look.length() - look.replace(String.valueOf(field), "").length();
    }

    boolean isOf(int bits) {
        for (int j = 0; j < look.length(); j++) {
            char bit = bitAt(bits, j);
            if ((look.charAt(j) == '0' || look.charAt(j) == '1') && look.charAt(j) != bit) {
                return false;
            }
        }
        return true;
    }

    private char bitAt(int bits, int j) {
        return (bits >> look.length() - 1 - j & 1) == 1 ? '1' : '0';
    }

    int fieldOf(int bits, char field) {
        StringBuilder told = new StringBuilder("0");
        for (int j = 0; j < look.length(); j++) {
            if (look.charAt(j) == field) {
                told.append(bitAt(bits, j));
            }
        }
        return Integer.parseInt(told.toString(), 2);
    }

    /** Bits with the fields that a map tells. */
    int bitsWith(Map<Character, Integer> fields) {
        Map<Character, String> left = new HashMap<>();
        for (char f : fields.keySet()) {
            if (has(f)) {
                String told = Integer.toBinaryString(fields.get(f));
                left.put(f, "0".repeat(widthOf(f) - told.length()) + told);
            }
        }
        StringBuilder bits = new StringBuilder();
        for (char l : look.toCharArray()) {
            if (l == '0' || l == '1') {
                bits.append(l);
            } else {
                bits.append(left.get(l).charAt(0));
                left.put(l, left.get(l).substring(1));
            }
        }
        return Integer.parseInt(bits.toString(), 2);
    }

    /** What words and targets mean on some machine. */
    interface Stores {
        int get(String operand);

        void put(String target, int word);

        int words();
    }

    void doOn(Stores stores) {
        if (guardKind() == 1 && stores.get(guardOn()) == 0 || guardKind() == 2 && stores.get(guardOn()) != 0) {
            return;
        }
        for (String[] act : acts) {
            int word = stores.get(act[1]);
            if (act.length > 2) {
                word = combine(act[2].charAt(0), word, stores.get(act[3]), stores.words());
            }
            stores.put(act[0], word);
        }
    }

    static int combine(char sign, int left, int right, int words) {
        switch (sign) {
            case '+': return (left + right) % words;
            case '-': return (left - right + words) % words;
            case '&': return left & right;
            case '|': return left | right;
            case '^': return left ^ right;
            case '<': return left < right ? 1 : 0;
            default: throw new IllegalStateException("no sign " + sign);
        }
    }

    /** All operands, one text each, the guard's and the words within [ ] of targets among them. */
    List<String> named() {
        List<String> named = new ArrayList<>();
        if (!guard.isEmpty()) {
            named.add(guardOn());
        }
        for (String[] act : acts) {
            if (act[0].startsWith("[")) {
                named.add(act[0].substring(1, 2));
            }
            addNamed(named, act[1]);
            if (act.length > 2) {
                addNamed(named, act[3]);
            }
        }
        return named;
    }

    private static void addNamed(List<String> named, String operand) {
        if (operand.startsWith("[")) {
            named.add("memory");
            named.add(operand.substring(1, 2));
        } else {
            named.add(operand);
        }
    }

    List<String> targets() {
        List<String> targets = new ArrayList<>();
        for (String[] act : acts) {
            targets.add(act[0].startsWith("[") ? "memory" : act[0]);
        }
        return targets;
    }
}
