/** Promises 1 to 12: a new object, the tape, orders, holes. */
public final class TellingTest {
    private static final int BAD = OrdersTold.BAD, NOT = OrdersTold.NOT, FULL = OrdersTold.FULL, NONE = OrdersTold.NONE;
    private static final int[] FAR = {Integer.MIN_VALUE, -1, Integer.MAX_VALUE};

    public static void main(String[] args) {
        Checks c = new Checks("telling");
        atFirst(c, new OrdersTold(), "1: new", 4, 256, 256);
        begin(c);
        type(c);
        faults(c);
        goodOrders(c);
        sharedBits(c);
        fullOrders(c);
        unorder(c);
        about(c);
        lookAndField(c);
        holes(c);
        counts(c);
        c.end();
    }

    private static void atFirst(Checks c, OrdersTold x, String when, int registers, int words, int holes) {
        int[] counts = {0, registers, words, 1, 2};
        for (int i = 0; i < counts.length; i++) {
            c.due(when + " count " + i, x.count(i), counts[i]);
        }
        c.due(when + " holes", x.holes(), holes);
        c.due(when + " hole", x.hole(0), 0);
        c.due(when + " shared", x.shared(), NONE);
        c.due(when + " unorder", x.unorder(), NOT);
        for (int place = 0; place < 64; place++) {
            c.due(when + " code", x.code(place), 0);
        }
        for (int i = 0; i < registers; i++) {
            c.due(when + " register", x.get(0, i), 0);
        }
        for (int i = 0; i < words; i += 3) {
            c.due(when + " memory", x.get(1, i), 0);
        }
        c.due(when + " z", x.get(2, 0), 0);
        c.due(when + " p", x.get(3, 0), 0);
        for (int i = 0; i < 4; i++) {
            c.due(when + " so", x.so(i), 0);
        }
        c.due(when + " run", x.run(1), OrdersTold.STOP);
        c.due(when + " back", x.back(1), NOT);
        c.due(when + " price", x.price(), NOT);
        c.due(when + " value", x.value(), NOT);
        c.due(when + " make", x.make(0), NOT);
        c.due(when + " best", x.best(64), NONE);
    }

    private static void begin(Checks c) {
        int[][] wrong = {{1, 2, 8}, {9, 2, 8}, {8, 0, 8}, {8, 4, 8}, {8, 2, 5}, {8, 2, 13}, {-1, -1, -1},
            {Integer.MAX_VALUE, 2, 8}, {8, Integer.MIN_VALUE, 8}, {8, 2, Integer.MAX_VALUE}};
        OrdersTold x = Checks.ten();
        x.put(5, 17);
        x.set(0, 1, 9);
        x.set(1, 7, 9);
        x.flush(7);
        x.variables(3);
        Checks.sum(x, "a+b");
        x.run(3);
        Checks.order(x, "q:11111111:z=0:1");
        Checks.type(x, "abc");
        for (int[] w : wrong) {
            c.due("2: begin " + w[0] + " " + w[1] + " " + w[2], x.begin(w[0], w[1], w[2]), BAD);
        }
        c.due("2: refused, nothing changed", x.count(0), 10);
        c.due("2: refused, code stays", x.code(5), 17);
        c.due("2: refused, steps stay", x.so(0), 3);
        c.due("2: refused, the sum stays", x.price(), 1);
        c.due("2: begin", x.begin(2, 3, 12), 1);
        c.due("2: the tape stays", x.type('d', 1), 4);
        c.due("2: and is read then", x.order(), -23);
        atFirst(c, x, "2: begun", 8, 4, 4096);
        c.due("2: lowest", x.begin(2, 1, 6), 1);
        atFirst(c, x, "2: lowest", 2, 4, 64);
        c.due("2: highest", x.begin(8, 3, 12), 1);
        atFirst(c, x, "2: highest", 8, 256, 4096);
    }

    private static void type(Checks c) {
        OrdersTold x = new OrdersTold();
        c.due("3: n 0", x.type('a', 0), BAD);
        c.due("3: n 9", x.type('a', 9), BAD);
        c.due("3: n below", x.type('a', -1), BAD);
        c.due("3: least n", x.type('a', Integer.MIN_VALUE), BAD);
        c.due("3: byte 31", x.type(31, 1), BAD);
        c.due("3: byte 127", x.type(127, 1), BAD);
        c.due("3: byte 0", x.type('a', 2), BAD);
        c.due("3: byte 255", x.type(-1L, 8), BAD);
        c.due("3: byte 128 in the middle", x.type(0x618061, 3), BAD);
        c.due("3: byte 32", x.type(32, 1), 1);
        c.due("3: byte 126", x.type(126, 1), 2);
        c.due("3: bytes above n count for nothing", x.type(0xFF00FF0000616263L, 3), 5);
        c.due("3: a tape of ' ~abc' is faulty at its second", x.order(), -21);
        c.due("3: the highest first", x.type(0x6162, 2), 2);
        c.due("3: 'ab' as a name", x.order(), -22);
        for (int n = 8; n <= 72; n += 8) {
            c.due("3: so long", x.type(0x6161616161616161L, 8), n);
        }
        c.due("3: one less than all", x.type(0x61616161616161L, 7), 79);
        c.due("3: too long", x.type(0x6161, 2), FULL);
        c.due("3: BAD ahead of FULL", x.type(0x6101, 2), BAD);
        c.due("3: just full", x.type(0x61, 1), 80);
        c.due("3: full", x.type(0x61, 1), FULL);
        c.due("3: it was kept", x.order(), -23);
        c.due("3: empty then", x.type(0x61, 1), 1);
    }

    private static void faults(Checks c) {
        // The place of the fault stands behind a text; the machine has W 8, K 2, B 8.
        String[] texts = {"", "   ", "1", ":", "A", "a", "ab ", "a b:", "abcd:", "abc d", "a:", "a :  ", "a:0", "a:000000 0",
            "a:0000000:", "a:00000002", "a:0000000D", "a:000000000:", "a:00000000", "a:00000000 ;", "a:0000000d:", "a:00000ddd:z=0:1",
            "a:0000000t:z=0:1", "a:0000ssst :z=0:1", "a:0000000s  ", "a:00000000:", "a:00000000:d=0:1", "a:00000000:i=0:1",
            "a:0000000i:i=0:1", "a:0000000i:[i=0:1", "a:0000000i:[i]:1", "a:0000000i:[z]=0:1", "a:0000000i:[d]=0:1",
            "a:00000000:[", "a:00000000:z", "a:00000000:z=", "a:00000000:z=d:1", "a:00000000:z=a:1", "a:00000000:z=256:1",
            "a:00000000:z=1+ 999x", "a:00000000:z=99999999999999999999:1", "a:00000000:z=1 2:1", "a:00000000:z=1+:1",
            "a:00000000:z=1*2:1", "a:00000000:z=1+2+3:1", "a:00000000:z=1,:1", "a:00000000:z=1,z=1,z=1,z=1:1", "a:00000000:z=1;",
            "a:00000000:z=1:", "a:00000000:z=1:0", "a:00000000:z=1:a", "a:00000000:z=1:11", "a:00000000:z=1:1 :", "a:00000000:?",
            "a:00000000:?d,z=1:1", "a:00000000:?p,z=1:1", "a:0000000i:?i,z=1:1", "a:00000000:?!!z,z=1:1", "a:00000000:?z z=1:1",
            "a:00000000:?z,:1", "a:00000000:?z,?z,z=1:1", "a:00000000:!z,z=1:1", "a:000000dd:?s,z=1:1", "a:000000dd:z=[s]:1",
            "a:000000dd:z=[d:1", "a:000000dd:z=[3]:1", "a:00000000:,z=1:1", "a:00000000:1=1:1", "a:000000dd:dd=1:1", "a:00000000::1"};
        int[] places = {0, 3, 0, 0, 0, 1, 3, 2, 3, 4, 2, 5, 3, 10,
            9, 9, 9, 10, 10, 11, 10, 10,
            10, 11, 12, 11, 11, 11,
            11, 13, 14, 12, 12,
            12, 12, 13, 13, 13, 13,
            16, 13, 15, 15,
            14, 16, 15, 22, 14,
            15, 15, 15, 16, 17, 12,
            12, 12, 12, 13, 14,
            14, 14, 11, 12, 14,
            15, 14, 11, 11, 12, 11};
        c.due("4: as many places as texts", texts.length, places.length);
        OrdersTold x = new OrdersTold();
        for (int i = 0; i < Math.min(texts.length, places.length); i++) {
            if (i % 20 == 19) {
                x = new OrdersTold();
            }
            c.due("4: fault of '" + texts[i] + "'", Checks.order(x, texts[i]), -20 - places[i]);
            c.due("4: no order then", x.count(0), 0);
        }
        c.due("4: s alone not as told", Checks.order(x, "a:00000sss:z=0:1"), -30);
        c.due("4: a good one is told", Checks.order(x, "abc:00000000:z=0:1"), 0);
        c.due("4: the name of another", Checks.order(x, "  abc:1111"), -22);
        c.due("4: the name of another alone", Checks.order(x, "abc"), -20);
        c.due("4: a name that only begins so", Checks.order(x, "ab:11111111:z=0:1"), 1);
        x.begin(2, 1, 6);
        c.due("4: i more often than W", Checks.order(x, "a:000iii:z=i:1"), -28);
        c.due("4: i W times", Checks.order(x, "a:0000ii:z=i:1"), 0);
        c.due("4: d more often than K", Checks.order(x, "b:1000dd:z=d:1"), -28);
        c.due("4: the name is free again", Checks.order(x, "b:10000d:z=d:1"), 1);
    }

    private static void goodOrders(Checks c) {
        String[] texts = {"a:00000000:z=0:1", "  b  :  0 0 0 0 0 0 0 1  :  ? !  z  ,  z  =  255  ^  0  :  9  ", "ccc:0000001i:[i]=[i]<[i]:5",
            "d:0001ddss:?!s,d=s,s=d|000255,[d]=[s]:3", "e:d0d1s0s0:p=p-z:2", "f:10000100:p=p,p=p,p=p:1"};
        OrdersTold x = new OrdersTold();
        for (int i = 0; i < texts.length; i++) {
            c.due("4: " + texts[i], Checks.order(x, texts[i]), i == 4 ? NOT : i > 4 ? i - 1 : i);
        }
        c.due("4: it shares with d", x.shared(), 16 * 32 + 3);
        x = new OrdersTold();
        c.due("4: all bits are fields", Checks.order(x, "a:dsitdsit:d=0:1"), 0);
        c.due("4: no hole is left", x.holes(), 0);
    }

    private static void sharedBits(Checks c) {
        OrdersTold x = new OrdersTold();
        c.due("5: none", x.shared(), NONE);
        Checks.order(x, "a:1000iiii:z=i:1");
        Checks.order(x, "b:0100iiii:z=i:1");
        c.due("5: none yet", x.shared(), NONE);
        c.due("4: shares", Checks.order(x, "c:iiii0011:z=i:1"), NOT);
        c.due("5: least bits, their order", x.shared(), 0x43 * 32 + 1);
        c.due("4: not told", x.count(0), 2);
        c.due("4: a fault shares nothing", Checks.order(x, "c:10000000:z=i:1"), -33);
        c.due("5: stays", x.shared(), 0x43 * 32 + 1);
        c.due("4: shares with the first", Checks.order(x, "c:10ii0101:z=i:1"), NOT);
        c.due("5: the latest", x.shared(), 0x85 * 32);
        c.due("4: told", Checks.order(x, "c:11111111:z=0:1"), 2);
        x.unorder();
        x.unorder();
        c.due("5: stays over unorder", x.shared(), 0x85 * 32);
        x.begin(8, 2, 8);
        c.due("5: none since begin", x.shared(), NONE);
    }

    private static String six(int n) {
        return Integer.toBinaryString(64 + n).substring(1);
    }

    private static void fullOrders(Checks c) {
        OrdersTold x = new OrdersTold();
        x.begin(4, 1, 6);
        for (int i = 0; i < 20; i++) {
            c.due("4: the number", Checks.order(x, (char) ('a' + i) + ":" + six(i) + ":z=0:1"), i);
        }
        c.due("4: the 21st", Checks.order(x, "z:111111:z=0:1"), FULL);
        c.due("4: the tape is empty then", x.order(), -20);
        c.due("4: a fault ahead of FULL", Checks.order(x, "z:111111:z=0:0"), -35 + 2);
        c.due("4: NOT ahead of FULL", Checks.order(x, "z:000011:z=0:1"), NOT);
        c.due("5: and it counts", x.shared(), 3 * 32 + 3);
        c.due("6: one goes", x.unorder(), 19);
        c.due("4: room again", Checks.order(x, "z:111111:z=0:1"), 19);
    }

    private static void unorder(Checks c) {
        OrdersTold x = new OrdersTold();
        c.due("6: none", x.unorder(), NOT);
        Checks.order(x, "a:1000iiii:z=i:1");
        Checks.order(x, "b:0100iiii:z=i:1");
        c.due("6: the latest", x.unorder(), 1);
        c.due("6: its bits are holes", x.look(0x40), NONE);
        c.due("6: the other's are not", x.look(0x80), 0);
        c.due("6: so many holes", x.holes(), 240);
        c.due("6: its name is free", Checks.order(x, "b:0100iiii:z=i:1"), 1);
        c.due("6: one", x.unorder(), 1);
        c.due("6: all", x.unorder(), 0);
        c.due("6: none is left", x.unorder(), NOT);
    }

    private static void about(Checks c) {
        OrdersTold x = new OrdersTold();
        Checks.order(x, "a:1i0dd0i1:?!d,[i]=d,d=i:7");
        Checks.order(x, "b:0000sstt:?z,t=s:1");
        int[][] due = {{7, 2, 2, 9, 2, 0x81}, {1, 1, 1, 6, 0, 0}};
        for (int order = 0; order < 2; order++) {
            for (int what = 0; what < 6; what++) {
                c.due("7: about " + order + " " + what, x.about(order, what), due[order][what]);
            }
            c.due("7: what 6", x.about(order, 6), BAD);
            c.due("7: what below", x.about(order, -1), BAD);
        }
        c.due("7: no order", x.about(2, 0), BAD);
        for (int far : FAR) {
            c.due("7: far order", x.about(far, 0), BAD);
            c.due("7: far what", x.about(0, far), BAD);
        }
    }

    private static void lookAndField(Checks c) {
        OrdersTold x = new OrdersTold();
        Checks.order(x, "a:1i0dd0i1:d=i:7");
        Checks.order(x, "b:0000sstt:t=s:1");
        c.due("8: least", x.look(0x81), 0);
        c.due("8: highest", x.look(0xDB), 0);
        c.due("8: b", x.look(15), 1);
        c.due("8: hole", x.look(0x80), NONE);
        c.due("8: 256", x.look(256), BAD);
        c.due("8: 255", x.look(255), NONE);
        int[] wanted = {0x81, 0xC1, 0x83, 0xC3, 0x91, 0x89, 0x99, 0xDB};
        int[] d = {0, 0, 0, 0, 2, 1, 3, 3};
        int[] i = {0, 2, 1, 3, 0, 0, 0, 3};
        for (int n = 0; n < wanted.length; n++) {
            c.due("9: d of " + wanted[n], x.field(wanted[n], 0), d[n]);
            c.due("9: i of " + wanted[n], x.field(wanted[n], 3), i[n]);
            c.due("9: no s", x.field(wanted[n], 1), NONE);
            c.due("9: no t", x.field(wanted[n], 2), NONE);
        }
        c.due("9: s", x.field(9, 1), 2);
        c.due("9: t", x.field(9, 2), 1);
        c.due("9: hole", x.field(0x80, 0), NONE);
        c.due("9: f 4", x.field(9, 4), BAD);
        c.due("9: BAD ahead of NONE", x.field(0x80, 4), BAD);
        c.due("9: no bits", x.field(256, 0), BAD);
        for (int far : FAR) {
            c.due("8: far", x.look(far), BAD);
            c.due("9: far bits", x.field(far, 0), BAD);
            c.due("9: far f", x.field(9, far), BAD);
            c.due("11: far", x.hole(far), BAD);
            c.due("12: far", x.count(far), BAD);
        }
    }

    private static void holes(Checks c) {
        OrdersTold x = new OrdersTold();
        c.due("10: all", x.holes(), 256);
        c.due("11: the last", x.hole(255), 255);
        c.due("11: beyond", x.hole(256), BAD);
        Checks.order(x, "a:0iiiiiii:z=i:1");
        Checks.order(x, "b:11111iii:z=i:1");
        c.due("10: some", x.holes(), 120);
        c.due("11: from 0", x.hole(0), 128);
        c.due("11: from itself", x.hole(200), 200);
        c.due("11: the last hole", x.hole(247), 247);
        c.due("11: none behind", x.hole(248), NONE);
        Checks.order(x, "g:10000000:z=0:1");
        c.due("11: one further", x.hole(0), 129);
        c.due("11: from the order", x.hole(128), 129);
        x.unorder();
        Checks.order(x, "c:10iiiiii:z=i:1");
        Checks.order(x, "d:110iiiii:z=i:1");
        Checks.order(x, "e:1110iiii:z=i:1");
        Checks.order(x, "f:11110iii:z=i:1");
        c.due("10: none", x.holes(), 0);
        c.due("11: none", x.hole(0), NONE);
    }

    private static void counts(Checks c) {
        OrdersTold x = new OrdersTold();
        x.begin(5, 3, 9);
        Checks.order(x, "a:000000000:z=0:1");
        x.variables(8);
        x.flush(0);
        int[] due = {1, 8, 32, 8, 0};
        for (int what = 0; what < 5; what++) {
            c.due("12: count " + what, x.count(what), due[what]);
        }
        c.due("12: count 5", x.count(5), BAD);
    }
}
