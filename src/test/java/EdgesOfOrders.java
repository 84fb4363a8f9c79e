/** What promises 1 to 12 say: a new object, the tape, orders as they are told, what bits are. */
final class EdgesOfOrders {
    private static final int BAD = OrdersTold.BAD, NOT = OrdersTold.NOT, FULL = OrdersTold.FULL, NONE = OrdersTold.NONE;
    private static final int[] FAR = {Integer.MIN_VALUE, -1, Integer.MAX_VALUE};
    private static final long A = 0x6161616161616161L;

    private EdgesOfOrders() {
    }

    static void all(Sentences d) {
        newObject(d);
        begin(d);
        type(d);
        order(d);
        shared(d);
        unorder(d);
        about(d);
        look(d);
        field(d);
        holes(d);
        count(d);
    }

    /** All that can be looked at, of K registers and some of the words and places. */
    private static void isAsAtFirst(Sentences d, OrdersTold x, int registers, int words, int bits) {
        int[] counts = {0, registers, words, 1, 2};
        for (int what = 0; what < counts.length; what++) {
            d.due("count " + what, x.count(what), counts[what]);
        }
        for (int place = 0; place < 64; place++) {
            d.due("CODE at " + place, x.code(place), 0);
        }
        for (int i = 0; i < registers; i++) {
            d.due("REGISTER " + i, x.get(0, i), 0);
        }
        for (int i = 0; i < words; i++) {
            d.due("MEMORY at " + i, x.get(1, i), 0);
        }
        for (int what = 2; what < 4; what++) {
            d.due(what == 2 ? "Z" : "P", x.get(what, 0), 0);
        }
        for (int what = 0; what < 4; what++) {
            d.due("so " + what, x.so(what), 0);
        }
        int[] rest = {x.holes(), x.hole(0), x.shared(), x.unorder(), x.back(1), x.price(), x.make(0), x.value(), x.best(64),
            x.look(bits - 1), x.look(bits), x.run(1)};
        int[] due = {bits, 0, NONE, NOT, NOT, NOT, NOT, NOT, NONE, NONE, BAD, OrdersTold.STOP};
        for (int i = 0; i < due.length; i++) {
            d.due("rest " + i, rest[i], due[i]);
        }
    }

    private static void newObject(Sentences d) {
        d.in("promise 1");
        d.says("W 8, K 2, B 8, no ORDERS");
        OrdersTold x = new OrdersTold();
        d.due("no ORDERS", x.count(0), 0);
        d.due("K 2", x.count(1), 4);
        d.due("W 8", x.count(2), 256);
        d.due("B 8", x.holes(), 256);
        d.says("all else as at first");
        isAsAtFirst(d, new OrdersTold(), 4, 256, 256);
        d.due("no SHEET", x.drop(0), OrdersTold.NULL);
        d.due("nothing on THE TAPE", x.type('a', 1), 1);
        x = Checks.told(8, 2, 8, "j:00iiiiii:p=i:1");
        x.put(0, 1);
        x.put(1, 63);
        x.put(63, 0);
        x.run(1);
        d.due("the guess at 0 is 1", x.so(3), 0);
        x.run(1);
        d.due("the guess at 1 is 2", x.so(3), 1);
        x.run(1);
        d.due("the guess at 63 is 0", x.so(3), 1);
    }

    /** An object that is as at first in nothing. */
    private static OrdersTold used() {
        OrdersTold x = Checks.told(8, 2, 8, "mov:00ddss00:d=s:2", "j:01iiiiii:p=i:1", "m:1000ddss:[d]=3,z=3,d=d+5:1");
        x.variables(3);
        x.flush(9);
        x.put(0, 0x85);
        x.put(1, 0x41);
        x.put(63, 0x42);
        x.run(5);
        Checks.order(x, "x:11ddss00:d=s+s:1");
        Checks.order(x, "y:00000000:z=0:1");
        Checks.sum(x, "b");
        x.sheet(3, 1, 7);
        x.item(3, 1, 6, 60);
        Checks.type(x, "ab");
        return x;
    }

    private static void begin(Sentences d) {
        d.in("promise 2");
        d.says("W, K, B: no ORDERS, all else but SHEETS, THE TAPE as at first: 1");
        OrdersTold x = used();
        d.due("begin", x.begin(8, 2, 8), 1);
        d.due("THE TAPE stays", x.type('c', 1), 3);
        d.due("it is what it was", x.order(), -23);
        d.due("the SHEET stays", x.load(3, 1, 6, 63, 1), 1);
        d.due("it is what it was", x.put(63, 0), 60);
        isAsAtFirst(d, x, 4, 256, 256);
        x = used();
        x.begin(8, 2, 8);
        Checks.order(x, "j:01iiiiii:p=i:1");
        x.put(0, 0x41);
        x.put(1, 0x42);
        x.run(2);
        d.due("guesses are as at first", x.so(3), 0);
        d.due("names are free", Checks.order(x, "mov:00ddss00:d=s:2"), 1);
        x = used();
        x.begin(2, 3, 12);
        x.drop(3);
        isAsAtFirst(d, x, 8, 4, 4096);
        x = used();
        x.begin(3, 1, 6);
        isAsAtFirst(d, x, 2, 8, 64);

        d.says("BAD");
        int[][] wrong = {{1, 2, 8}, {9, 2, 8}, {8, 0, 8}, {8, 4, 8}, {8, 2, 5}, {8, 2, 13}};
        for (int[] w : wrong) {
            d.due(w[0] + ", " + w[1] + ", " + w[2], new OrdersTold().begin(w[0], w[1], w[2]), BAD);
        }
        for (int far : FAR) {
            d.due("W " + far, new OrdersTold().begin(far, 2, 8), BAD);
            d.due("K " + far, new OrdersTold().begin(8, far, 8), BAD);
            d.due("B " + far, new OrdersTold().begin(8, 2, far), BAD);
        }
    }

    private static void type(Sentences d) {
        d.in("promise 3");
        d.says("The n lowest bytes (1 .. 8) of w, of these the highest first, come behind THE TAPE: how many it has");
        OrdersTold x = new OrdersTold();
        for (int n = 1; n <= 8; n++) {
            d.due(n + " bytes", x.type(A, n), n * (n + 1) / 2);
        }
        x = new OrdersTold();
        d.due("bytes above are not looked at", x.type(0xFF00FF00FF00617AL, 2), 2);
        d.due("of 'az' the highest first", Checks.order(x, ":00000000:z=0:1"), 0);
        d.due("a comes first", x.text(0, 0), 'a');
        d.due("z comes behind", x.text(0, 1), 'z');
        d.due("a w below 0 is bytes, too", x.type(0xFFFFFFFFFFFFFF20L, 1), 1);

        d.says("BAD: n, a byte not 32 .. 126");
        x = new OrdersTold();
        d.due("n 0", x.type(A, 0), BAD);
        d.due("n 9", x.type(A, 9), BAD);
        for (int far : FAR) {
            d.due("n " + far, x.type(A, far), BAD);
        }
        d.due("31", x.type(31, 1), BAD);
        d.due("127", x.type(127, 1), BAD);
        for (int at = 0; at < 8; at++) {
            long hole = ~(255L << 8 * at);
            d.due("31 at " + at, x.type(A & hole | 31L << 8 * at, 8), BAD);
            d.due("127 at " + at, x.type(A & hole | 127L << 8 * at, 8), BAD);
            d.due("0 at " + at, x.type(A & hole, 8), BAD);
            d.due("128 at " + at, x.type(A & hole | 128L << 8 * at, 8), BAD);
        }
        d.due("none has come", x.type(32, 1), 1);
        d.due("126", x.type(126, 1), 2);

        d.says("FULL: 80");
        x = new OrdersTold();
        for (int n = 8; n <= 72; n += 8) {
            x.type(A, 8);
        }
        d.due("79", x.type(A, 7), 79);
        d.due("81", x.type(A, 2), FULL);
        d.due("none of them came: 80", x.type(A, 1), 80);
        d.due("one more", x.type(A, 1), FULL);
        d.due("eight more", x.type(A, 8), FULL);
        x.order();
        d.due("it is empty behind order()", x.type(A, 8), 8);
    }

    private static void order(Sentences d) {
        d.in("promise 4");
        d.says("THE TAPE, which is empty then, is an ORDER: its number");
        OrdersTold x = new OrdersTold();
        d.due("the first", Checks.order(x, "a:00000000:z=0:1"), 0);
        d.due("empty then", x.type('a', 1), 1);
        x.order();
        d.due("the next", Checks.order(x, "b:00000001:z=0:1"), 1);
        d.says("a FAULT");
        d.due("no ORDER", Checks.order(x, "c:00000002:z=0:1"), -29);
        d.due("empty then, too", x.type('a', 1), 1);
        x.order();
        d.due("of an empty TAPE", x.order(), -20);
        d.due("a FAULT ahead of NOT", Checks.order(x, "c:00000000:z=0:0"), -35);
        d.due("none is told by it", x.count(0), 2);
        d.says("NOT: it shares bits");
        d.due("it shares", Checks.order(x, "c:00000000:z=0:1"), NOT);
        d.due("empty then, too", x.type('c', 1), 1);
        x.order();
        d.due("none is told by it", x.count(0), 2);
        d.due("its NAME is free", Checks.order(x, "c:00000010:z=0:1"), 2);
        d.says("FULL: 20");
        for (int n = 3; n < 19; n++) {
            String bits = Integer.toBinaryString(16 + n % 16).substring(1);
            d.due("the next", Checks.order(x, (char) ('a' + n) + ":0010" + bits + ":z=0:1"), n);
        }
        d.due("the 20th", Checks.order(x, "x:11111111:z=0:1"), 19);
        d.due("the 21st", Checks.order(x, "y:11111110:z=0:1"), FULL);
        d.due("empty then, too", x.order(), -20);
        d.due("a FAULT ahead of it", Checks.order(x, "x:11111110:z=0:1"), -20);
        d.due("NOT ahead of it", Checks.order(x, "y:11111111:z=0:1"), NOT);
        d.due("20 are told", x.count(0), 20);
        d.due("no bits by it", x.look(254), NONE);
        x.unorder();
        d.due("room again", Checks.order(x, "y:11111110:z=0:1"), 19);
    }

    private static void shared(Sentences d) {
        d.in("promise 5");
        d.says("Of the latest order() that shared bits: the least such bits, times 32, and the least ORDER that has them");
        OrdersTold x = Checks.told(8, 2, 8, "a:1000iiii:z=i:1", "b:0100iiii:z=i:1", "c:00000000:z=0:1");
        Checks.order(x, "x:iiii0111:z=i:1");
        d.due("the least bits are b's", x.shared(), 0b01000111 * 32 + 1);
        Checks.order(x, "x:10000iii:z=i:1");
        d.due("the latest, of a", x.shared(), 0b10000000 * 32);
        Checks.order(x, "x:iiiiiiii:z=i:1");
        d.due("bits 0", x.shared(), 2);
        Checks.order(x, "x:10001111:z=0:1");
        d.due("a single one", x.shared(), 0b10001111 * 32);
        Checks.order(x, "y:11111111:z=0:1");
        d.due("one that shares none leaves it", x.shared(), 0b10001111 * 32);
        Checks.order(x, "a:00000000:z=0:1");
        d.due("a FAULT leaves it", x.shared(), 0b10001111 * 32);
        x.unorder();
        x.unorder();
        d.due("unorder() leaves it", x.shared(), 0b10001111 * 32);
        x.begin(0, 0, 0);
        d.due("a refused begin() leaves it", x.shared(), 0b10001111 * 32);
        x = Checks.told(8, 2, 12, "a:11111111111i:z=i:1");
        Checks.order(x, "b:111111111111:z=0:1");
        d.due("the highest bits", x.shared(), 4095 * 32);

        d.says("NONE: there was none since begin()");
        x.begin(8, 2, 8);
        d.due("none since", x.shared(), NONE);
        d.due("none at all", new OrdersTold().shared(), NONE);
        Checks.order(x, "a:11111111:z=i:1");
        d.due("a FAULT is none", x.shared(), NONE);
        Checks.order(x, "a:11111111:z=0:1");
        d.due("one that shares nothing is none", x.shared(), NONE);
        Checks.join(x, "b", 0, 0);
        Checks.join(x, "a", 0, 0);
        d.due("join() is none", x.shared(), NONE);
    }

    private static void unorder(Sentences d) {
        d.in("promise 6");
        d.says("The latest ORDER goes: how many are left");
        OrdersTold x = Checks.told(8, 2, 8, "a:0000iiii:z=i:1", "b:0001iiii:z=i:1");
        d.due("one is left", x.unorder(), 1);
        d.due("the latest went", x.look(16), NONE);
        d.due("the first is there", x.look(15), 0);
        d.due("none is left", x.unorder(), 0);
        d.due("all are HOLES", x.holes(), 256);
        d.says("NOT: there is none");
        d.due("none is left to go", x.unorder(), NOT);
        d.due("still", x.unorder(), NOT);
        d.due("at first", new OrdersTold().unorder(), NOT);
        d.due("it can be told again", Checks.order(x, "a:0000iiii:z=i:1"), 0);
    }

    private static void about(Sentences d) {
        d.in("promise 7");
        OrdersTold x = Checks.told(8, 2, 12, "a:000000000000:z=0:1", "b:1ddssttiii10:?z,d=s,t=i:5", "c:01iiiiiiii11:?!z,z=i,z=i,z=i:9");
        String[] sentences = {"Of an ORDER: 0 TICKS", "1 ACTS", "2 GUARD (0 none, 1 ?, 2 ?!)",
            "3 FIELDS (bits 1 d, 2 s, 4 t, 8 i)", "4 how many bits i has", "5 its least bits"};
        int[][] due = {{1, 5, 9}, {1, 2, 3}, {0, 1, 2}, {0, 15, 8}, {0, 3, 8}, {0, 0b100000000010, 0b010000000011}};
        for (int what = 0; what < 6; what++) {
            d.says(sentences[what]);
            for (int n = 0; n < 3; n++) {
                d.due("about " + n, x.about(n, what), due[what][n]);
            }
        }
        d.says("BAD");
        d.due("no ORDER 3", x.about(3, 0), BAD);
        d.due("what 6", x.about(0, 6), BAD);
        for (int far : FAR) {
            d.due("ORDER " + far, x.about(far, 0), BAD);
            d.due("what " + far, x.about(0, far), BAD);
        }
        x.unorder();
        d.due("one that is gone", x.about(2, 0), BAD);
    }

    private static void look(Sentences d) {
        d.in("promise 8");
        OrdersTold x = Checks.told(8, 2, 8, "a:0000iiii:z=i:1", "b:11111111:z=0:1");
        d.says("The ORDER that some bits are");
        d.due("0", x.look(0), 0);
        d.due("the last of a", x.look(15), 0);
        d.due("the highest", x.look(255), 1);
        d.says("BAD");
        d.due("256", x.look(256), BAD);
        for (int far : FAR) {
            d.due("far", x.look(far), BAD);
        }
        d.says("NONE");
        d.due("behind a", x.look(16), NONE);
        d.due("ahead of b", x.look(254), NONE);
    }

    private static void field(Sentences d) {
        d.in("promise 9");
        OrdersTold x = Checks.told(8, 1, 8, "a:0iiidsti:d=i:1", "b:11111111:z=0:1");
        d.says("FIELD f (0 d, 1 s, 2 t, 3 i) of bits");
        int[][] due = {{0b00001000, 1, 0, 0, 0}, {0b00000100, 0, 1, 0, 0}, {0b00000010, 0, 0, 1, 0}, {0b00000001, 0, 0, 0, 1},
            {0b01000000, 0, 0, 0, 8}, {0b01111111, 1, 1, 1, 15}, {0, 0, 0, 0, 0}};
        for (int[] one : due) {
            for (int f = 0; f < 4; f++) {
                d.due("FIELD " + f + " of " + one[0], x.field(one[0], f), one[1 + f]);
            }
        }
        d.says("BAD");
        d.due("bits 256", x.field(256, 0), BAD);
        d.due("f 4", x.field(0, 4), BAD);
        for (int far : FAR) {
            d.due("bits " + far, x.field(far, 0), BAD);
            d.due("f " + far, x.field(0, far), BAD);
        }
        d.due("ahead of NONE", x.field(128, 4), BAD);
        d.says("NONE: a HOLE, no such FIELD");
        d.due("a HOLE", x.field(128, 0), NONE);
        for (int f = 0; f < 4; f++) {
            d.due("no such FIELD", x.field(255, f), NONE);
        }
    }

    private static void holes(Sentences d) {
        d.in("promise 10");
        d.says("How many HOLES there are");
        for (int b = 6; b <= 12; b++) {
            d.due("all of B " + b, Checks.told(8, 2, b).holes(), 1 << b);
            d.due("but one", Checks.told(8, 2, b, "a:" + "1".repeat(b) + ":z=0:1").holes(), (1 << b) - 1);
            d.due("but four", Checks.told(2, 2, b, "a:" + "0".repeat(b - 2) + "ii:z=0:1").holes(), (1 << b) - 4);
        }
        d.due("none", Checks.told(8, 2, 8, "a:iiiiiiii:z=i:1").holes(), 0);
        OrdersTold x = Checks.told(8, 2, 8, "a:0000iiii:z=i:1");
        Checks.join(x, "b", 0, 0);
        d.due("less those of one JOINED", x.holes(), 256 - 32);

        d.in("promise 11");
        d.says("The first HOLE from some bits on");
        x = Checks.told(8, 2, 8, "a:0000iiii:z=i:1", "b:11111111:z=0:1");
        d.due("from 0", x.hole(0), 16);
        d.due("from the last of a", x.hole(15), 16);
        d.due("from itself", x.hole(16), 16);
        d.due("the last HOLE", x.hole(254), 254);
        d.due("the highest of all", new OrdersTold().hole(255), 255);
        d.says("BAD");
        d.due("256", x.hole(256), BAD);
        for (int far : FAR) {
            d.due("far", x.hole(far), BAD);
        }
        d.says("NONE");
        d.due("from b", x.hole(255), NONE);
        d.due("from 0", Checks.told(8, 2, 8, "a:iiiiiiii:z=i:1").hole(0), NONE);
    }

    private static void count(Sentences d) {
        d.in("promise 12");
        String[] sentences = {"How many: 0 ORDERS", "1 REGISTERS", "2 WORDS of MEMORY", "3 V", "4 F"};
        OrdersTold x = Checks.told(5, 3, 6, "a:000000:z=0:1", "b:000001:z=0:1");
        x.variables(8);
        x.flush(9);
        int[] due = {2, 8, 32, 8, 9};
        int[] least = {0, 2, 4, 1, 2};
        for (int what = 0; what < 5; what++) {
            d.says(sentences[what]);
            d.due("some", x.count(what), due[what]);
            d.due("at first", Checks.told(2, 1, 6).count(what), least[what]);
        }
        d.says("BAD");
        d.due("what 5", x.count(5), BAD);
        for (int far : FAR) {
            d.due("what " + far, x.count(far), BAD);
        }
    }
}
