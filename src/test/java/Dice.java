/** Numbers that look thrown, and are the same each time; texts of orders and sums made from them. */
final class Dice {
    private long seed;

    Dice(long seed) {
        this.seed = seed * 2862933555777941757L + 3037000493L;
    }

    /** 0 .. n - 1. */
    int below(int n) {
        seed = seed * 6364136223846793005L + 1442695040888963407L;
        return (int) ((seed >>> 33) % n);
    }

    int between(int least, int most) {
        return least + below(most - least + 1);
    }

    boolean oneIn(int n) {
        return below(n) == 0;
    }

    char of(String letters) {
        return letters.charAt(below(letters.length()));
    }

    /** What an order with some fields might do. */
    String does(String fields, int acts) {
        StringBuilder text = new StringBuilder();
        String registers = fields.replace("i", "");
        if (oneIn(4)) {
            text.append(oneIn(2) ? "?" : "?!").append(of(registers + "z")).append(',');
        }
        for (int a = 0; a < acts; a++) {
            text.append(a > 0 ? "," : "").append(target(fields, registers)).append('=').append(operand(fields));
            if (below(3) > 0) {
                text.append(of("+-&|^<")).append(operand(fields));
            }
        }
        return text.toString();
    }

    private String target(String fields, String registers) {
        if (!fields.isEmpty() && oneIn(4)) {
            return "[" + of(fields) + "]";
        }
        return String.valueOf(oneIn(3) || registers.isEmpty() ? of("zp") : of(registers));
    }

    private String operand(String fields) {
        if (!fields.isEmpty() && oneIn(5)) {
            return "[" + of(fields) + "]";
        }
        if (oneIn(6)) {
            return String.valueOf(oneIn(2) ? below(4) : below(256));
        }
        return String.valueOf(of(fields + (oneIn(3) || fields.isEmpty() ? "zp" : fields)));
    }
}
