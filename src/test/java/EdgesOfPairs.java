/** What section 5 of the document's terms says of pairs, with promises 32 to 35. */
final class EdgesOfPairs {
    private static final int BAD = OrdersTold.BAD, NOT = OrdersTold.NOT, FULL = OrdersTold.FULL, NONE = OrdersTold.NONE;
    private static final int[] FAR = {Integer.MIN_VALUE, -1, Integer.MAX_VALUE};

    private EdgesOfPairs() {
    }

    static void all(Sentences d) {
        d.in("5");
        whoCanBeJoined(d);
        room(d);
        orderOfBoth(d);
        pairs(d);
        pairsPromise(d);
        roomPromise(d);
        bestPromise(d);
        joinPromise(d);
    }

    /** The room for two orders without fields, by what they do and their ticks; where there is room it is 2. */
    private static int roomOf(String a, String b) {
        return Checks.told(8, 1, 6, "a:000000:" + a, "b:000001:" + b).room(0, 1);
    }

    private static void whoCanBeJoined(Sentences d) {
        d.says("JOINED can be ORDERS a, b (a may be b)");
        d.due("two", roomOf("z=0:1", "z=1:1"), 2);
        d.due("one with itself", Checks.told(8, 1, 6, "a:000000:z=0:1").room(0, 0), 1);

        d.says("if neither has a GUARD or names p");
        String[] not = {"?z,z=0:1", "?!z,z=0:1", "p=0:1", "z=p:1", "z=1+p:1", "z=0,p=1:1"};
        for (String one : not) {
            d.due("a " + one, roomOf(one, "z=1:1"), NOT);
            d.due("b " + one, roomOf("z=1:1", one), NOT);
        }

        d.says("both have 3 ACTS together at most");
        d.due("2 and 1", roomOf("z=0,z=0:1", "z=0:1"), 2);
        d.due("1 and 2", roomOf("z=0:1", "z=0,z=0:1"), 2);
        d.due("2 and 2", roomOf("z=0,z=0:1", "z=0,z=0:1"), NOT);
        d.due("3 and 1", roomOf("z=0,z=0,z=0:1", "z=0:1"), NOT);
        d.due("1 and 3", roomOf("z=0:1", "z=0,z=0,z=0:1"), NOT);

        d.says("TICKS together 10 at most");
        for (int t = 1; t <= 9; t++) {
            d.due("10, of which " + t, roomOf("z=0:" + t, "z=0:" + (10 - t)), 2);
        }
        for (int t = 2; t <= 9; t++) {
            d.due("11, of which " + t, roomOf("z=0:" + t, "z=0:" + (11 - t)), NOT);
        }

        d.says("i (if both have it) of as many bits");
        OrdersTold x = Checks.told(8, 1, 8, "a:000000ii:z=i:1", "b:000001ii:z=i:1", "c:00010iii:z=i:1", "e:00011000:z=1:1");
        d.due("as many", x.room(0, 1), 8);
        d.due("less", x.room(0, 2), NOT);
        d.due("more", x.room(2, 0), NOT);
        d.due("a alone has it", x.room(2, 3), 8);
        d.due("b alone has it", x.room(3, 2), 8);
    }

    private static void room(Sentences d) {
        d.says("and there is ROOM: of FIELDS of both, like letters once, f bits are less than B");
        OrdersTold x = Checks.told(8, 1, 8, "a:000000ds:d=s:1", "b:0000010d:d=1:1", "c:000010si:s=i:1", "e:0000111t:z=t:1");
        d.due("d, s once", x.room(0, 0), 16);
        d.due("d, s and d", x.room(0, 1), 16);
        d.due("d, s and s, i: three bits", x.room(0, 2), 16);
        d.due("d alone", x.room(1, 1), 6);
        d.due("d and t: two bits", x.room(1, 3), 16);
        x = Checks.told(8, 3, 6, "a:000ddd:d=1:1", "b:001sss:s=1:1", "c:01000i:z=i:1");
        d.due("f is B", x.room(0, 1), NOT);
        d.due("f is B - 2", x.room(0, 2), 32);
        x = Checks.told(8, 3, 6, "a:0ddd00:d=1:1", "b:1iiiii:z=i:1", "c:0000i1:z=i:1");
        d.due("f is above B", x.room(0, 1), NOT);
        x = Checks.told(8, 3, 7, "a:0000ddd:d=1:1", "b:0001sss:s=1:1");
        d.due("f is B - 1", x.room(0, 1), 64);

        d.says("and some block of 2^f bits that begins at a multiple of 2^f is all HOLES: the least such");
        x = Checks.told(8, 1, 6, "a:0000ii:z=i:1", "b:000101:z=0:1");
        d.due("not where one is an ORDER", x.room(0, 0), 8);
        d.due("a single HOLE", x.room(1, 1), 4);
        d.due("HOLES at 6 .. 9 are no block", x.room(0, 1), 8);
        Checks.order(x, "c:0010i0:z=i:1");
        d.due("the next", x.room(0, 0), 12);
        x = Checks.told(8, 1, 6, "a:111100:z=0:1", "b:1100ii:z=i:1");
        d.due("the first of all", x.room(1, 1), 0);
        x = Checks.told(8, 1, 6, "a:0iiiii:z=i:1", "b:1000ii:z=i:1", "c:101111:z=0:1", "e:110000:z=0:1");
        d.due("none of 32", x.room(0, 0), NOT);
        d.due("of 4", x.room(1, 1), 36);
        x = Checks.told(8, 1, 6, "a:0iiiii:z=i:1", "b:10iiii:z=i:1", "c:110iii:z=i:1", "e:1110ii:z=i:1", "f:11110i:z=i:1", "g:111110:z=0:1");
        d.due("the last of all", x.room(5, 5), 63);
        d.due("none of 2", x.room(4, 4), NOT);
    }

    private static void orderOfBoth(Sentences d) {
        OrdersTold x = Checks.told(8, 1, 10, "a:00000t0s00:s=t:4", "b:1i0d0i0t0i:d=t+i,t=9:6");
        d.says("The ORDER of both: LOOK the ROOM's bits, then d, s, t, i as there are");
        d.due("it is told", Checks.join(x, "j", 0, 1), 2);
        d.due("the ROOM's bits", x.about(2, 5), 64);
        d.due("d", x.field(64 + 32, 0), 1);
        d.due("s", x.field(64 + 16, 1), 1);
        d.due("t", x.field(64 + 8, 2), 1);
        d.due("i, its highest", x.field(64 + 4, 3), 4);
        d.due("i, its lowest", x.field(64 + 1, 3), 1);
        d.due("the last of it", x.look(127), 2);
        d.due("none behind it", x.look(128), NONE);
        d.due("none ahead of it", x.look(63), NONE);
        OrdersTold y = Checks.told(8, 1, 6, "a:0000s1:s=1:1");
        Checks.join(y, "j", 0, 0);
        d.due("s as it is", y.about(1, 3), 2);
        d.due("the least ROOM", y.about(1, 5), 4);
        d.due("s in the lowest bit", y.field(5, 1), 1);

        d.says("DOES a's ACTS, then b's");
        d.due("three", x.about(2, 1), 3);
        x.put(0, 64 + 0b1_0_1_111);
        x.set(0, 1, 30);
        x.run(1);
        d.due("d, of t as it was", x.get(0, 1), 9);
        d.due("s of t as it was", x.get(0, 0), 30);
        x = Checks.told(8, 1, 6, "a:0000ds:d=s+1:1", "b:0001ds:s=d+1:1");
        Checks.join(x, "ab", 0, 1);
        Checks.join(x, "ba", 1, 0);
        x.put(0, Checks.line(x, "ab 0,1"));
        x.put(1, Checks.line(x, "ba 0,1"));
        x.run(1);
        d.due("a's, then b's", 10 * x.get(0, 0) + x.get(0, 1), 12);
        x.run(1);
        d.due("the other way", 10 * x.get(0, 0) + x.get(0, 1), 32);

        d.says("TICKS both less 1");
        for (int t = 1; t <= 9; t++) {
            x = Checks.told(8, 1, 6, "a:000000:z=0:" + t, "b:000001:z=0:" + (10 - t), "c:000010:z=0:1");
            Checks.join(x, "e", 0, 1);
            Checks.join(x, "f", 0, 2);
            d.due("10 are 9", x.about(3, 0), 9);
            d.due("1 and " + t, x.about(4, 0), t);
        }
    }

    /** W 8, K 1, B 8: a 0 .. 3 with d, s; b 4, 5 with d; c 8 .. 11 with i; e 16 .. 19, f 24 .. 31 with s, i. */
    private static OrdersTold five() {
        return Checks.told(8, 1, 8, "a:000000ds:d=s:1", "b:0000010d:d=1:1", "c:000010ii:z=i:1", "e:000100ii:z=i:2", "f:00011sii:s=i:1");
    }

    private static OrdersTold holding(int... bits) {
        OrdersTold x = five();
        for (int place = 0; place < 64; place++) {
            x.put(place, place < bits.length ? bits[place] : 255);
        }
        return x;
    }

    private static void pairs(Sentences d) {
        d.says("PAIRS of a, b in CODE ahead of a place: places x, x + 1 (both ahead of it) that hold a, b with like FIELDS told alike");
        OrdersTold x = holding(0b10, 0b101, 0b10, 0b100);
        d.due("d alike, d unlike", x.pairs(0, 1, 64), 1);
        d.due("both ahead of 2", x.pairs(0, 1, 2), 1);
        d.due("one ahead of 1", x.pairs(0, 1, 1), 0);
        d.due("b, a: alike", x.pairs(1, 0, 64), 1);
        d.due("b, a: one ahead of 2", x.pairs(1, 0, 2), 0);
        d.due("b, a: both ahead of 3", x.pairs(1, 0, 3), 1);
        d.due("a HOLE between", holding(0b10, 255, 0b101).pairs(0, 1, 64), 0);
        d.due("no like FIELDS", holding(0b01, 9).pairs(0, 2, 64), 1);
        d.due("i alike", holding(9, 17).pairs(2, 3, 64), 1);
        d.due("i unlike", holding(9, 18).pairs(2, 3, 64), 0);
        d.due("s alike, of two FIELDS of which one is like", holding(0b01, 0b11111).pairs(0, 4, 64), 1);
        d.due("s unlike", holding(0b01, 0b11011).pairs(0, 4, 64), 0);
        d.due("both alike", holding(0b01, 0b01).pairs(0, 0, 64), 1);
        d.due("one of both unlike", holding(0b01, 0b11).pairs(0, 0, 64), 0);
        x = holding();
        x.put(63, 0b101);
        x.put(62, 0b10);
        d.due("the last places", x.pairs(0, 1, 64), 1);
        d.due("ahead of the last", x.pairs(0, 1, 63), 0);
        x = holding();
        x.put(63, 0b10);
        x.put(0, 0b101);
        d.due("63 and 0 are none", x.pairs(0, 1, 64), 0);

        d.says("from the front, no place in two");
        d.due("two", holding(9, 9).pairs(2, 2, 64), 1);
        d.due("three", holding(9, 9, 9).pairs(2, 2, 64), 1);
        d.due("four", holding(9, 9, 9, 9).pairs(2, 2, 64), 2);
        d.due("from the front", holding(9, 9, 9, 255, 9).pairs(2, 2, 64), 1);
        d.due("unlike ones are gone over singly", holding(8, 9, 9).pairs(2, 2, 64), 1);
    }

    private static void pairsPromise(Sentences d) {
        d.in("promise 32");
        OrdersTold x = five();
        for (int place = 0; place < 64; place++) {
            x.put(place, 9);
        }
        d.says("PAIRS of a, b ahead of a place (0 .. 64)");
        d.due("0", x.pairs(2, 2, 0), 0);
        d.due("1", x.pairs(2, 2, 1), 0);
        d.due("2", x.pairs(2, 2, 2), 1);
        d.due("63", x.pairs(2, 2, 63), 31);
        d.due("64", x.pairs(2, 2, 64), 32);
        d.says("BAD");
        d.due("65", x.pairs(2, 2, 65), BAD);
        d.due("no a", x.pairs(5, 0, 0), BAD);
        d.due("no b", x.pairs(0, 5, 0), BAD);
        for (int far : FAR) {
            d.due("a " + far, x.pairs(far, 0, 0), BAD);
            d.due("b " + far, x.pairs(0, far, 0), BAD);
            d.due("place " + far, x.pairs(0, 0, far), BAD);
        }
    }

    private static void roomPromise(Sentences d) {
        d.in("promise 33");
        OrdersTold x = five();
        d.says("The ROOM for a, b JOINED: its least bits");
        d.due("a, b", x.room(0, 1), 12);
        d.due("c, c", x.room(2, 2), 12);
        d.due("a, c", x.room(0, 2), 32);
        d.due("b, b", x.room(1, 1), 6);
        d.says("BAD");
        d.due("no a", x.room(5, 0), BAD);
        d.due("no b", x.room(0, 5), BAD);
        for (int far : FAR) {
            d.due("a " + far, x.room(far, 0), BAD);
            d.due("b " + far, x.room(0, far), BAD);
        }
        d.says("NOT: they can't be");
        d.due("i of more bits", Checks.told(8, 1, 6, "a:0000ii:z=i:1", "b:001iii:z=i:1").room(0, 1), NOT);
        d.due("no HOLES", Checks.told(8, 1, 6, "a:iiiiii:z=i:1").room(0, 0), NOT);
    }

    private static void bestPromise(Sentences d) {
        d.in("promise 34");
        d.says("Those that can be JOINED of which there are most PAIRS (one at least) ahead of a place: 20 a and b");
        OrdersTold x = holding(9, 9, 255, 0b10, 0b101, 0b10, 0b101);
        d.due("most", x.best(64), 1);
        d.due("20 a and b", x.best(6), 1);
        d.due("ahead of 4", x.best(4), 2 * 20 + 2);
        d.due("ahead of 2", x.best(2), 2 * 20 + 2);
        d.due("ahead of 1: none", x.best(1), NONE);
        x = Checks.told(8, 1, 6, "a:0000ii:p=i:1", "b:000100:z=0:1");
        x.put(8, 4);
        x.put(9, 4);
        d.due("not those that can't, though there are more", x.best(64), 20 + 1);
        x = Checks.told(8, 1, 6, "a:000000:z=0,z=0:1", "b:000001:z=1,z=1:1", "c:000010:z=1:5", "e:111111:z=1:6");
        x.put(0, 63);
        x.put(1, 2);
        x.put(2, 1);
        x.put(3, 2);
        x.put(4, 63);
        d.due("not by TICKS, not by ACTS", x.best(5), 20 + 2);
        d.due("b is 0", holding(0b101, 0b10).best(64), 20);
        OrdersTold least = Checks.told(8, 1, 6, "a:111100:z=0:1");
        least.put(0, 60);
        least.put(1, 60);
        d.due("both are 0, their ROOM is 0", least.best(2), 0);
        OrdersTold last = twenty();
        last.put(0, 19);
        last.put(1, 19);
        last.put(2, 63);
        d.due("the last of all, though there are 20", last.best(3), 399);

        d.says("of like ones the least");
        d.due("c, c and a, b", holding(9, 9, 255, 0b10, 0b101).best(64), 1);
        d.due("b, a and a, b", holding(0b101, 0b10, 255, 0b10, 0b101).best(64), 1);
        d.due("a, c and a, b", holding(0b10, 9, 255, 0b10, 0b101).best(64), 1);

        d.says("BAD");
        d.due("65", x.best(65), BAD);
        for (int far : FAR) {
            d.due("far", x.best(far), BAD);
        }
        d.says("NONE");
        d.due("ahead of 0", x.best(0), NONE);
        d.due("no ORDERS", new OrdersTold().best(64), NONE);
        d.due("no PAIR", holding(0b10, 0b100).best(64), NONE);
        OrdersTold whole = Checks.told(8, 1, 6, "a:iiiiii:z=i:1");
        d.due("no ROOM", whole.best(64), NONE);
    }

    /** Twenty orders without fields, a to t, bits 0 to 19. */
    private static OrdersTold twenty() {
        OrdersTold x = Checks.told(8, 1, 6);
        for (int n = 0; n < 20; n++) {
            Checks.order(x, (char) ('a' + n) + ":" + Integer.toBinaryString(64 + n).substring(1) + ":z=0:1");
        }
        return x;
    }

    private static void joinPromise(Sentences d) {
        d.in("promise 35");
        OrdersTold x = five();
        d.says("a, b JOINED are an ORDER more, THE TAPE, which is empty then, its NAME: its number");
        d.due("its number", Checks.join(x, "  xyz ", 0, 1), 5);
        d.due("empty then", x.type('q', 1), 1);
        d.due("its NAME", x.text(12, 0) * 10000 + x.text(12, 1) * 100 + x.text(12, 2), 'x' * 10000 + 'y' * 100 + 'z');
        d.due("one more", x.count(0), 6);
        d.due("another", x.join(1, 0), 6);
        d.due("it goes as others do", x.unorder(), 6);
        d.due("JOINED with one JOINED", Checks.join(x, "w", 5, 0), 6);
        x = Checks.told(8, 1, 6, "a:111100:z=0:1");
        d.due("in a ROOM at 0", Checks.join(x, "b", 0, 0), 1);
        d.due("it is there", x.look(0), 1);

        d.says("BAD (THE TAPE stays)");
        x = five();
        Checks.type(x, "uv");
        d.due("no a", x.join(5, 0), BAD);
        d.due("no b", x.join(0, 5), BAD);
        for (int far : FAR) {
            d.due("a " + far, x.join(far, 0), BAD);
            d.due("b " + far, x.join(0, far), BAD);
        }
        d.due("it stays", x.type('w', 1), 3);
        Checks.type(x, "1");
        d.due("ahead of a FAULT", x.join(0, 5), BAD);

        d.says("a FAULT (of what is no NAME, as above)");
        d.due("the fourth byte", x.join(0, 1), -23);
        d.due("empty then, too", x.type('q', 1), 1);
        x.line();
        String[] wrong = {"", "   ", "1", "Q", "q r", "qrst", "q1", "q:", " a", "a", "a1"};
        int[] places = {0, 3, 0, 0, 2, 3, 1, 1, 1, 0, 0};
        for (int n = 0; n < wrong.length; n++) {
            d.due("'" + wrong[n] + "'", Checks.join(x, wrong[n], 0, 1), -20 - places[n]);
        }
        d.due("none is told by it", x.count(0), 5);

        d.says("NOT");
        Checks.order(x, "p:11111111:p=0:1");
        d.due("they can't be", Checks.join(x, "q", 0, 5), NOT);
        d.due("empty then, too", x.type('q', 1), 1);
        d.due("a FAULT ahead of it", Checks.join(x, "1", 0, 5), -21);
        d.due("none is told by it", x.count(0), 6);

        d.says("FULL: 20");
        x = twenty();
        d.due("the 21st", Checks.join(x, "z", 0, 0), FULL);
        d.due("empty then, too", x.order(), -20);
        d.due("a FAULT ahead of it", Checks.join(x, "a", 0, 0), -20);
        d.due("20 are told", x.count(0), 20);
        d.due("no bits by it", x.look(20), NONE);
        x.unorder();
        Checks.order(x, "u:111111:p=0:1");
        d.due("NOT ahead of it", Checks.join(x, "z", 19, 0), NOT);
        x.unorder();
        d.due("the 20th", Checks.join(x, "z", 0, 0), 19);
    }
}
