/** Promises 32 to 37: pairs, room, joined orders, logs, code loaded from sheets. */
public final class JoinTest {
    private static final int BAD = OrdersTold.BAD, NOT = OrdersTold.NOT, FULL = OrdersTold.FULL, NONE = OrdersTold.NONE,
            NULL = OrdersTold.NULL, CAST = OrdersTold.CAST, INDEX = OrdersTold.INDEX;
    private static final int[] FAR = {Integer.MIN_VALUE, -1, Integer.MAX_VALUE};

    public static void main(String[] args) {
        Checks c = new Checks("join");
        pairs(c);
        room(c);
        whoCanBeJoined(c);
        best(c);
        join(c);
        joinFaults(c);
        joinedSaves(c);
        log(c);
        logRefusals(c);
        load(c);
        c.end();
    }

    /** W 8, K 1, B 10: mov 0 .. 3, inc 8 .. 15, neg 16 .. 17, jmp 24 .. 31, the rest are holes. */
    private static OrdersTold four() {
        OrdersTold x = new OrdersTold();
        x.begin(8, 1, 10);
        Checks.order(x, "mov:00000000ds:d=s:2");
        Checks.order(x, "inc:0000001dii:d=d+i:1");
        Checks.order(x, "neg:000001000s:s=0-s,z=s:3");
        Checks.order(x, "jmp:0000011iii:p=i:1");
        return x;
    }

    private static void putAll(OrdersTold x, String... lines) {
        for (int i = 0; i < lines.length; i++) {
            x.put(i, Checks.line(x, lines[i]));
        }
    }

    private static void pairs(Checks c) {
        OrdersTold x = four();
        x.put(63, 1000);
        putAll(x, "mov 1,0", "inc 1,3", "mov 1,0", "inc 0,3", "inc 1,3", "inc 1,3", "inc 1,3", "mov 1,1", "mov 1,1", "mov 1,1",
                "mov 1,1", "mov 0,1", "neg 1", "mov 1,0", "neg 1", "jmp 5", "inc 1,3");
        c.due("32: d alike", x.pairs(0, 1, 64), 1);
        c.due("32: ahead of 2", x.pairs(0, 1, 2), 1);
        c.due("32: ahead of 1", x.pairs(0, 1, 1), 0);
        c.due("32: ahead of 0", x.pairs(0, 1, 0), 0);
        c.due("32: the other way", x.pairs(1, 0, 64), 2);
        c.due("32: no place in two", x.pairs(1, 1, 64), 1);
        c.due("32: d, s alike", x.pairs(0, 0, 12), 2);
        c.due("32: s alike", x.pairs(0, 2, 64), 1);
        c.due("32: i is i, nothing else is alike", x.pairs(3, 1, 64), 0);
        c.due("32: no like fields", x.pairs(2, 1, 64), 0);
        c.due("32: no like fields but next", x.pairs(2, 3, 64), 1);
        c.due("32: the end", x.pairs(0, 0, 65), BAD);
        c.due("32: no order", x.pairs(4, 0, 64), BAD);
        c.due("32: no second order", x.pairs(0, 4, 64), BAD);
        for (int far : FAR) {
            c.due("32: far a", x.pairs(far, 0, 64), BAD);
            c.due("32: far b", x.pairs(0, far, 64), BAD);
            c.due("32: far end", x.pairs(0, 0, far), BAD);
        }
        x = four();
        for (int i = 0; i < 64; i++) {
            x.put(i, 9);
        }
        c.due("32: 32 of them", x.pairs(1, 1, 64), 32);
        c.due("32: 31 of them", x.pairs(1, 1, 63), 31);
    }

    private static void room(Checks c) {
        OrdersTold x = four();
        c.due("33: two bits", x.room(0, 0), 4);
        c.due("33: three bits", x.room(1, 1), 32);
        c.due("33: d, s, i", x.room(0, 1), 32);
        c.due("33: the other way", x.room(1, 0), 32);
        c.due("33: no order", x.room(0, 4), BAD);
        c.due("33: no first order", x.room(4, 0), BAD);
        for (int far : FAR) {
            c.due("33: far a", x.room(far, 0), BAD);
            c.due("33: far b", x.room(0, far), BAD);
        }
        x.begin(8, 2, 6);
        Checks.order(x, "a:11iiii:z=i:1");
        Checks.order(x, "b:10ddss:d=s:1");
        Checks.order(x, "c:000000:z=1:1");
        c.due("33: the least block", x.room(0, 0), 16);
        c.due("33: f is not below B", x.room(0, 1), NOT);
        c.due("33: no field at all", x.room(2, 2), 1);
        Checks.order(x, "f:0100ii:z=i:1");
        c.due("33: f is B", x.room(1, 3), NOT);
        x.unorder();
        Checks.order(x, "f:010111:z=0:1");
        c.due("33: a single order in the block", x.room(0, 0), NOT);
        x.unorder();
        Checks.order(x, "e:01ii00:z=i:1");
        c.due("33: no block is all holes", x.room(0, 0), NOT);
        c.due("33: blocks begin at multiples", x.room(2, 3), 4);
        x.begin(8, 2, 6);
        Checks.order(x, "a:1ii000:z=i:1");
        x.put(0, 32);
        x.put(1, 32);
        c.due("33: at 0", x.room(0, 0), 0);
        c.due("34: room at 0", x.best(2), 0);
        c.due("35: room at 0", Checks.join(x, "b", 0, 0), 1);
        c.due("35: its least bits", x.about(1, 5), 0);
        x.begin(8, 2, 6);
        Checks.order(x, "a:ddsstt:d=s+t:1");
        c.due("33: no holes", x.room(0, 0), NOT);
    }

    private static void whoCanBeJoined(Checks c) {
        OrdersTold x = new OrdersTold();
        x.begin(8, 1, 12);
        String[] does = {"z=0:5", "z=0:6", "z=0,z=1:1", "?z,z=0:1", "?!z,z=0:1", "p=0:1", "z=p:1", "z=1^p:1", "z=0,z=0,z=0:1"};
        for (int i = 0; i < does.length; i++) {
            Checks.order(x, (char) ('a' + i) + ":" + Integer.toBinaryString(4096 + i).substring(1) + ":" + does[i]);
        }
        Checks.order(x, "k:1000000000ii:z=i:1");
        Checks.order(x, "l:100000001iii:z=i:1");
        c.due("33: ticks 10", x.room(0, 0), 9);
        c.due("33: ticks 11", x.room(0, 1), NOT);
        c.due("33: ticks 11 the other way", x.room(1, 0), NOT);
        c.due("33: three acts", x.room(2, 0), 9);
        c.due("33: four acts", x.room(2, 2), NOT);
        for (int i = 3; i < 9; i++) {
            c.due("33: ahead, " + does[i], x.room(i, 0), NOT);
            c.due("33: behind, " + does[i], x.room(0, i), NOT);
        }
        c.due("33: i of as many bits", x.room(9, 9), 12);
        c.due("33: i of more", x.room(9, 10), NOT);
        c.due("33: i of one alone", x.room(10, 0), 16);
    }

    private static void best(Checks c) {
        OrdersTold x = four();
        x.put(0, 1000);
        c.due("34: none", x.best(0), NONE);
        for (int i = 0; i < 64; i++) {
            x.put(i, 1000);
        }
        c.due("34: holes", x.best(64), NONE);
        putAll(x, "jmp 1", "jmp 1", "jmp 1", "jmp 1", "mov 1,0", "inc 1,3", "mov 1,0", "mov 1,0");
        c.due("34: jmp can't be joined; of like ones the least", x.best(64), 0);
        c.due("34: ahead of 7", x.best(7), 1);
        c.due("34: ahead of 6", x.best(6), 1);
        c.due("34: ahead of 5", x.best(5), NONE);
        x.put(8, Checks.line(x, "inc 1,2"));
        c.due("34: most", x.best(64), 1);
        c.due("34: 64 is the last", x.best(65), BAD);
        for (int far : FAR) {
            c.due("34: far", x.best(far), BAD);
        }
        putAll(x, "neg 1", "neg 1", "neg 1", "inc 1,3", "inc 1,3", "mov 1,1", "neg 1", "mov 0,1", "neg 1");
        c.due("34: four acts can't; 20 a and b", x.best(4), 2 * 20 + 1);
        c.due("34: of like ones the least a", x.best(5), 20 + 1);
        c.due("34: mov, neg", x.best(64), 2);
    }

    private static void join(Checks c) {
        OrdersTold x = four();
        c.due("35: its number", Checks.join(x, " mi ", 0, 1), 4);
        int[] due = {2, 2, 0, 11, 2, 32};
        for (int what = 0; what < due.length; what++) {
            c.due("35: about " + what, x.about(4, what), due[what]);
        }
        c.due("35: its line", Checks.line(x, "mi 1,0,2"), 32 + 8 + 2);
        c.due("35: its text", Checks.text(x, 32 + 8 + 2).equals("mi 1,0,2") ? 1 : 0, 1);
        c.due("35: reads", x.reads(4), 2);
        c.due("35: writes", x.writes(4), 1);
        x.put(0, Checks.line(x, "mi 1,0,2"));
        x.set(0, 0, 40);
        x.run(1);
        c.due("35: a's acts, then b's", x.get(0, 1), 42);
        c.due("35: ticks of both less one", x.so(1), 2);
        c.due("35: the tape is empty then", x.join(1, 1), -20);
        c.due("35: the next room", Checks.join(x, "ii", 1, 1), 5);
        c.due("35: it begins there", x.about(5, 5), 48);
        c.due("35: joined with a joined one", Checks.join(x, "m", 4, 0), 6);
        c.due("35: three acts", x.about(6, 1), 3);
        c.due("35: ticks", x.about(6, 0), 3);
        c.due("35: no fourth", Checks.join(x, "n", 6, 0), NOT);
        c.due("6: it goes", x.unorder(), 6);
        c.due("35: it goes before", x.look(64), NONE);
        x.begin(8, 2, 12);
        Checks.order(x, "a:0i0s0i0s0000:s=i:9");
        Checks.order(x, "b:1000d0t0d0t0:d=t:1");
        c.due("35: all fields", Checks.join(x, "abc", 0, 1), 2);
        c.due("35: room", x.about(2, 5), 0x200);
        c.due("35: ticks 9", x.about(2, 0), 9);
        c.due("35: d, s, t, i", Checks.line(x, "abc 1,2,3,0"), 0x200 + 0b01_10_11_00);
        c.due("35: not of the maker's forms", Checks.sum(x, "a") + x.price(), 1 + NONE);
        c.due("35: no shared bits by it", x.shared(), NONE);
    }

    private static void joinFaults(Checks c) {
        OrdersTold x = four();
        Checks.type(x, "xy");
        c.due("35: no order", x.join(0, 4), BAD);
        c.due("35: no first order", x.join(4, 0), BAD);
        for (int far : FAR) {
            c.due("35: far a", x.join(far, 0), BAD);
            c.due("35: far b", x.join(0, far), BAD);
        }
        c.due("35: the tape stays", x.type('z', 1), 3);
        c.due("35: it was the name", x.join(0, 1), 4);
        c.due("35: so", Checks.line(x, "xyz 0,0,0"), 32);
        String[] wrong = {"", "  ", "1", "A", "mov", " inc ", "xyz", "ab c", "abcd", "ab:", "a1", "mov x", "movx"};
        int[] places = {0, 2, 0, 0, 0, 1, 0, 3, 3, 2, 1, 0, 0};
        for (int i = 0; i < wrong.length; i++) {
            c.due("35: fault of '" + wrong[i] + "'", Checks.join(x, wrong[i], 0, 1), -20 - places[i]);
            c.due("35: the tape is empty then", x.type('a', 1), 1);
            x.line();
        }
        c.due("35: a fault ahead of NOT", Checks.join(x, "7", 3, 3), -20);
        c.due("35: NOT", Checks.join(x, "q", 3, 3), NOT);
        c.due("35: NOT, the tape is empty", x.order(), -20);
        for (int i = x.count(0); i < 20; i++) {
            c.due("35: more", Checks.join(x, "q" + (char) ('a' + i), 0, 1), i);
        }
        c.due("35: a fault ahead of FULL", Checks.join(x, "7", 0, 1), -20);
        c.due("35: NOT ahead of FULL", Checks.join(x, "q", 3, 3), NOT);
        c.due("35: FULL", Checks.join(x, "q", 0, 1), FULL);
        c.due("35: still 20", x.count(0), 20);
        c.due("35: the tape is empty", x.order(), -20);
    }

    private static void joinedSaves(Checks c) {
        OrdersTold x = four();
        putAll(x, "mov 1,0", "inc 1,3", "mov 0,1", "inc 0,1");
        c.due("34: it would pay", x.best(4), 1);
        x.set(0, 0, 5);
        x.run(4);
        int word = x.get(0, 0);
        int ticks = x.so(1);
        Checks.join(x, "mi", 0, 1);
        putAll(x, "mi 1,0,3", "mi 0,1,1");
        x.reset();
        x.set(0, 0, 5);
        x.run(2);
        c.due("35: the same comes out", x.get(0, 0), word);
        c.due("35: in fewer ticks", ticks - x.so(1), 3);
    }

    /** A sheet with rows of three. */
    private static void rows(OrdersTold x, int sheet, int lane, int... items) {
        x.sheet(sheet, lane, items.length);
        for (int i = 0; i < items.length; i++) {
            x.item(sheet, lane, i, items[i]);
        }
    }

    private static void log(Checks c) {
        OrdersTold x = four();
        putAll(x, "inc 0,3", "inc 1,2", "mov 1,0", "jmp 7");
        for (int i = 4; i < 64; i++) {
            x.put(i, 1000);
        }
        rows(x, 0, 2, 0, 0, 0, 1, 0, 3, 2, 1, 2, 3, 1, 3, 7, 1, 3, 7, 1, 3);
        c.due("36: no row", x.log(0, 2, 0, 0), 0);
        c.due("36: the first, no step", x.log(0, 2, 0, 1), 1);
        c.due("36: all five", x.log(0, 2, 0, 5), 5);
        c.due("36: behind a hole", x.log(0, 2, 0, 6), 5);
        c.due("36: from a later row", x.log(0, 2, 3, 2), 0);
        for (int lane = 0; lane < 3; lane++) {
            rows(x, 1, lane, 9, 9, 9, 0, 1, 0, 1, 1, 0, 2, 0, 4, 3, 0, 3);
            c.due("36: the first that is not so, lane " + lane, x.log(1, lane, 3, 4), 2);
            c.due("36: nothing ahead of it, lane " + lane, x.log(1, lane, 3, 2), 2);
        }
        rows(x, 1, 2, 0, 0, 0, 1, 2, 0);
        c.due("36: no such register", x.log(1, 2, 0, 2), 1);
        rows(x, 1, 2, 0, -1, 0);
        c.due("36: no register below", x.log(1, 2, 0, 1), 0);
        rows(x, 1, 2, 0, 0, 256);
        c.due("36: no such word", x.log(1, 2, 0, 1), 0);
        rows(x, 1, 2, 64, 0, 0);
        c.due("36: another p", x.log(1, 2, 0, 1), 0);
        c.due("36: all is as ahead", x.so(0) + x.get(3, 0) + x.get(0, 0) + x.back(1), NOT);
        x.run(1);
        rows(x, 1, 0, 1, 0, 3, 2, 1, 2);
        c.due("36: from now", x.log(1, 0, 0, 2), 2);
        c.due("36: ticks as ahead", x.so(1), 1);
        c.due("22: back as ahead", x.back(1), 0);
        x.set(0, 0, 200);
        rows(x, 1, 0, 0, 0, 200);
        c.due("36: a byte of 200 is below 0", x.log(1, 0, 0, 1), 0);
        rows(x, 1, 1, 0, 0, 200);
        c.due("36: a short is not", x.log(1, 1, 0, 1), 1);
        waitsStay(c);
    }

    private static void waitsStay(Checks c) {
        OrdersTold x = new OrdersTold();
        Checks.order(x, "a:00ddss00:d=d+1:5");
        rows(x, 0, 2, 1, 0, 1, 2, 0, 2);
        x.run(1);
        c.due("36: so", x.log(0, 2, 0, 2), 2);
        x.run(1);
        c.due("36: the step just ahead is so still", x.so(2), 4);
    }

    private static void logRefusals(Checks c) {
        OrdersTold x = new OrdersTold();
        c.due("36: NULL", x.log(0, 0, 0, 0), NULL);
        x.sheet(0, 1, 10);
        c.due("36: CAST", x.log(0, 0, 0, 0), CAST);
        c.due("36: CAST ahead of INDEX", x.log(0, 2, 99, 1), CAST);
        c.due("36: just there", x.log(0, 1, 1, 3) >= 0 ? 1 : 0, 1);
        c.due("36: one beyond", x.log(0, 1, 2, 3), INDEX);
        c.due("36: none behind the end", x.log(0, 1, 10, 0), 0);
        c.due("36: beyond the end", x.log(0, 1, 11, 0), INDEX);
        c.due("36: below", x.log(0, 1, -1, 0), INDEX);
        c.due("36: far below", x.log(0, 1, Integer.MIN_VALUE, 10), INDEX);
        c.due("36: far beyond", x.log(0, 1, Integer.MAX_VALUE, 10), INDEX);
        int[][] wrong = {{-1, 1, 0, 0}, {4, 1, 0, 0}, {0, -1, 0, 0}, {0, 3, 0, 0}, {0, 1, 0, -1}, {0, 1, 0, 11},
            {0, 1, 0, Integer.MAX_VALUE}, {Integer.MIN_VALUE, 1, 0, 0}, {1, 3, 0, 0}, {0, 1, 99, 11}};
        for (int[] w : wrong) {
            c.due("36: log " + w[0] + " " + w[1] + " " + w[2] + " " + w[3], x.log(w[0], w[1], w[2], w[3]), BAD);
        }
    }

    private static void load(Checks c) {
        OrdersTold x = new OrdersTold();
        c.due("37: NULL", x.load(0, 0, 0, 0, 0), NULL);
        rows(x, 0, 2, 1, 2, 3, 255, 256, 5, -1, 7);
        c.due("37: three", x.load(0, 2, 1, 10, 3), 3);
        int[] due = {0, 2, 3, 255, 0};
        for (int i = 0; i < due.length; i++) {
            c.due("37: place " + (9 + i), x.code(9 + i), due[i]);
        }
        c.due("37: one is no bits", x.load(0, 2, 2, 20, 3), NOT);
        c.due("37: one is below 0", x.load(0, 2, 5, 20, 2), NOT);
        c.due("37: nothing is put", x.code(20), 0);
        c.due("37: none", x.load(0, 2, 8, 0, 0), 0);
        c.due("37: the last places", x.load(0, 2, 0, 60, 4), 4);
        c.due("37: the last", x.code(63), 255);
        c.due("37: places beyond", x.load(0, 2, 0, 61, 4), BAD);
        c.due("37: CAST", x.load(0, 1, 0, 0, 1), CAST);
        c.due("37: CAST ahead of INDEX", x.load(0, 1, 99, 0, 1), CAST);
        c.due("37: INDEX", x.load(0, 2, 6, 0, 3), INDEX);
        c.due("37: INDEX ahead of NOT", x.load(0, 2, 4, 0, 5), INDEX);
        c.due("37: below", x.load(0, 2, -1, 0, 1), INDEX);
        c.due("37: beyond the end", x.load(0, 2, 9, 0, 0), INDEX);
        c.due("37: far below", x.load(0, 2, Integer.MIN_VALUE, 0, 30), INDEX);
        c.due("37: far beyond", x.load(0, 2, Integer.MAX_VALUE, 0, 30), INDEX);
        int[][] wrong = {{-1, 2, 0, 0, 0}, {4, 2, 0, 0, 0}, {0, -1, 0, 0, 0}, {0, 3, 0, 0, 0}, {0, 2, 0, -1, 0}, {0, 2, 0, 64, 1},
            {0, 2, 0, 0, -1}, {0, 2, 0, 0, 31}, {0, 2, 0, Integer.MAX_VALUE, 30}, {0, 2, 0, 0, Integer.MAX_VALUE}, {1, 2, 0, 40, 30}};
        for (int[] w : wrong) {
            c.due("37: load " + w[0] + " " + w[1] + " " + w[2] + " " + w[3] + " " + w[4], x.load(w[0], w[1], w[2], w[3], w[4]), BAD);
        }
        x.sheet(1, 0, 30);
        c.due("37: thirty", x.load(1, 0, 0, 34, 30), 30);
        c.due("37: all of them", x.code(63), 0);
        x.begin(8, 2, 12);
        rows(x, 2, 1, 4095, 4096);
        c.due("37: twelve bits", x.load(2, 1, 0, 0, 1), 1);
        c.due("37: thirteen bits", x.load(2, 1, 0, 0, 2), NOT);
    }
}
