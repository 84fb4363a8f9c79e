/** What section 1 of the document's terms says: words, registers, code, the texts of orders, their faults, how they are done. */
final class EdgesOfTelling {
    private static final int BAD = OrdersTold.BAD, NOT = OrdersTold.NOT, FULL = OrdersTold.FULL, NONE = OrdersTold.NONE;

    private EdgesOfTelling() {
    }

    static void all(Sentences d) {
        d.in("1");
        words(d);
        stores(d);
        code(d);
        orders(d);
        names(d);
        ticks(d);
        look(d);
        fields(d);
        guard(d);
        acts(d);
        targets(d);
        operands(d);
        signs(d);
        notInLook(d);
        faults(d);
        sharedBits(d);
        done(d);
    }

    private static OrdersTold begun(int w, int k, int b) {
        return Checks.told(w, k, b);
    }

    private static int begin(int w, int k, int b) {
        return new OrdersTold().begin(w, k, b);
    }

    /** An order of W 8, K 2, B 8 on a new object: its number, or what is wrong with it. */
    private static int tell(String text) {
        return Checks.order(new OrdersTold(), text);
    }

    /** One order with all fields at place 0: d 0, s 1, t 2, i 3; registers hold what is told. */
    private static OrdersTold doing(int w, String does, int... registers) {
        OrdersTold x = Checks.told(w, 2, 12, "a:0000ddssttii:" + does + ":1");
        x.put(0, 0b0000_00_01_10_11);
        for (int i = 0; i < registers.length; i++) {
            x.set(0, i, registers[i]);
        }
        return x;
    }

    /** What REGISTER 0 is behind one step. */
    private static int becomes(int w, String does, int... registers) {
        OrdersTold x = doing(w, does, registers);
        x.run(1);
        return x.get(0, 0);
    }

    private static void words(Sentences d) {
        d.says("A TELLING: WORDS of W bits (2 .. 8; 8 at first) are 0 .. 2^W - 1");
        d.due("W 1", begin(1, 2, 8), BAD);
        d.due("W 9", begin(9, 2, 8), BAD);
        d.due("at first 255 is a WORD", new OrdersTold().set(0, 0, 255), 0);
        d.due("at first 256 is none", new OrdersTold().set(0, 0, 256), BAD);
        for (int w = 2; w <= 8; w++) {
            d.due("W " + w, begin(w, 2, 8), 1);
            d.due("the highest of " + w + " bits", begun(w, 2, 8).set(0, 0, (1 << w) - 1), 0);
            d.due("above it", begun(w, 2, 8).set(0, 0, 1 << w), BAD);
            d.due("the highest in MEMORY", begun(w, 2, 8).set(1, 0, (1 << w) - 1), 0);
            d.due("above it in MEMORY", begun(w, 2, 8).set(1, 0, 1 << w), BAD);
        }
        d.due("the lowest", new OrdersTold().set(0, 0, 0), 0);
        d.due("below it", new OrdersTold().set(0, 0, -1), BAD);
        d.due("below it in MEMORY", new OrdersTold().set(1, 0, -1), BAD);

        d.says("all sums go round");
        for (int w = 2; w <= 8; w++) {
            int most = (1 << w) - 1;
            d.due("one more than the highest, W " + w, becomes(w, "d=s+t", 0, most, 1), 0);
            d.due("the highest twice", becomes(w, "d=s+t", 0, most, most), most - 1);
            d.due("just not round", becomes(w, "d=s+t", 0, most - 1, 1), most);
            d.due("one less than 0", becomes(w, "d=s-t", 0, 0, 1), most);
            d.due("0 less the highest", becomes(w, "d=s-t", 0, 0, most), 1);
            d.due("just not below", becomes(w, "d=s-t", 0, most, most), 0);
            OrdersTold x = begun(w, 2, 8);
            Checks.sum(x, most + "+1");
            d.due("a SUM above, W " + w, x.value(), 0);
            Checks.sum(x, "0-1");
            d.due("a SUM below, W " + w, x.value(), most);
        }
    }

    private static void stores(Sentences d) {
        d.says("REGISTERS are 2^K (K 1 .. 3; 2 at first)");
        d.due("K 0", begin(8, 0, 8), BAD);
        d.due("K 4", begin(8, 4, 8), BAD);
        d.due("the last at first", new OrdersTold().get(0, 3), 0);
        d.due("none behind it", new OrdersTold().get(0, 4), BAD);
        for (int k = 1; k <= 3; k++) {
            d.due("K " + k, begin(8, k, 8), 1);
            d.due("the last of K " + k, begun(8, k, 8).get(0, (1 << k) - 1), 0);
            d.due("none behind it", begun(8, k, 8).get(0, 1 << k), BAD);
            d.due("none ahead of the first", begun(8, k, 8).get(0, -1), BAD);
        }

        d.says("MEMORY has 2^W WORDS");
        for (int w = 2; w <= 8; w++) {
            d.due("the last of W " + w, begun(w, 2, 8).get(1, (1 << w) - 1), 0);
            d.due("none behind it", begun(w, 2, 8).get(1, 1 << w), BAD);
            d.due("none ahead of the first", begun(w, 2, 8).get(1, -1), BAD);
        }

        d.says("Z is 0 or 1");
        OrdersTold x = new OrdersTold();
        d.due("1", x.set(2, 0, 1), 0);
        d.due("2", x.set(2, 0, 2), BAD);
        d.due("-1", x.set(2, 0, -1), BAD);
        d.due("0", x.set(2, 0, 0), 1);

        d.says("P is 0 .. 63");
        d.due("63", x.set(3, 0, 63), 0);
        d.due("64", x.set(3, 0, 64), BAD);
        d.due("-1", x.set(3, 0, -1), BAD);
        d.due("0", x.set(3, 0, 0), 63);
    }

    private static void code(Sentences d) {
        d.says("CODE has 64 places of B bits (6 .. 12; 8 at first), all 0 at first");
        d.due("B 5", begin(8, 2, 5), BAD);
        d.due("B 13", begin(8, 2, 13), BAD);
        OrdersTold x = new OrdersTold();
        for (int place = 0; place < 64; place++) {
            d.due("0 at first at " + place, x.code(place), 0);
        }
        d.due("no place 64", x.code(64), BAD);
        d.due("no place -1", x.code(-1), BAD);
        d.due("at first 255 are bits", x.put(0, 255), 0);
        d.due("at first 256 are none", x.put(0, 256), BAD);
        for (int b = 6; b <= 12; b++) {
            d.due("B " + b, begin(8, 2, b), 1);
            d.due("the highest of " + b + " bits", begun(8, 2, b).put(63, (1 << b) - 1), 0);
            d.due("above it", begun(8, 2, b).put(63, 1 << b), BAD);
            d.due("below 0", begun(8, 2, b).put(63, -1), BAD);
        }
    }

    private static String bits(int n, int b) {
        return Integer.toBinaryString((1 << b) + n).substring(1);
    }

    private static void orders(Sentences d) {
        d.says("ORDERS 0 .. 19, as they come, are TEXTS");
        OrdersTold x = new OrdersTold();
        for (int n = 0; n < 20; n++) {
            d.due("none yet", x.about(n, 0), BAD);
            d.due("as they come", Checks.order(x, (char) ('z' - n) + ":" + bits(n, 8) + ":z=0:1"), n);
            d.due("it is there", x.about(n, 5), n);
        }
        d.due("no ORDER 20", Checks.order(x, "a:11111111:z=0:1"), FULL);
        d.due("nothing about it", x.about(20, 0), BAD);
        d.due("nor about -1", x.about(-1, 0), BAD);

        d.says("NAME : LOOK : DOES : TICKS, with :");
        d.due("all four", tell("a:00000000:z=0:1"), 0);
        d.due("no text at all", tell(""), -20);
        d.due("no : behind NAME", tell("a 00000000:z=0:1"), -22);
        d.due("no : behind LOOK", tell("a:00000000 z=0:1"), -31);
        d.due("no : behind DOES", tell("a:00000000:z=0"), -34);
        d.due("no LOOK", tell("a::z=0:1"), -22);
        d.due("no DOES", tell("a:00000000::1"), -31);
        d.due("no TICKS", tell("a:00000000:z=0:"), -35);
        d.due("one : more", tell("a:00000000:z=0:1:"), -36);
    }

    private static void names(Sentences d) {
        d.says("NAME: 1 to 3 letters a .. z, none of another ORDER");
        d.due("none", tell(":00000000:z=0:1"), -20);
        d.due("one", tell("a:00000000:z=0:1"), 0);
        d.due("two", tell("zz:00000000:z=0:1"), 0);
        d.due("three", tell("aza:00000000:z=0:1"), 0);
        d.due("four", tell("azaz:00000000:z=0:1"), -23);
        d.due("the byte ahead of a", tell("`:00000000:z=0:1"), -20);
        d.due("the byte behind z", tell("a{:00000000:z=0:1"), -21);
        d.due("a capital", tell("aA:00000000:z=0:1"), -21);
        d.due("a digit", tell("a1:00000000:z=0:1"), -21);
        OrdersTold x = new OrdersTold();
        Checks.order(x, "ab:00000000:z=0:1");
        d.due("another's", Checks.order(x, "ab:11111111:z=0:1"), -20);
        d.due("the front of another's", Checks.order(x, "a:11111111:z=0:1"), 1);
        d.due("more than another's", Checks.order(x, "abc:10000000:z=0:1"), 2);
        d.due("another's, turned round", Checks.order(x, "ba:11000000:z=0:1"), 3);
        x.unorder();
        d.due("one that is gone is no other's", Checks.order(x, "ba:11000000:z=0:1"), 3);
    }

    private static void ticks(Sentences d) {
        d.says("TICKS: a digit 1 .. 9");
        d.due("0", tell("a:00000000:z=0:0"), -35);
        d.due("the byte behind 9", tell("a:00000000:z=0::"), -35);
        d.due("10", tell("a:00000000:z=0:10"), -36);
        d.due("01", tell("a:00000000:z=0:01"), -35);
        for (int t = 1; t <= 9; t++) {
            OrdersTold x = Checks.told(8, 2, 8, "a:00000000:z=0:" + t);
            d.due("so many", x.about(0, 0), t);
        }
    }

    private static void look(Sentences d) {
        d.says("LOOK: B of 0, 1, d, s, t, i: a bit that is so, or one of a FIELD, the highest first");
        for (int b = 6; b <= 12; b++) {
            String zeros = "0".repeat(b);
            d.due("B " + b, Checks.order(begun(8, 2, b), "a:" + zeros + ":z=0:1"), 0);
            d.due("one less", Checks.order(begun(8, 2, b), "a:" + zeros.substring(1) + ":z=0:1"), -21 - b);
            d.due("one more", Checks.order(begun(8, 2, b), "a:" + zeros + "0:z=0:1"), -22 - b);
            d.due("none", Checks.order(begun(8, 2, b), "a:"), -22);
        }
        String wrong = "23/cerujhzpAD";
        for (int i = 0; i < wrong.length(); i++) {
            d.due("no " + wrong.charAt(i), tell("a:0000000" + wrong.charAt(i) + ":z=0:1"), -29);
        }
        OrdersTold x = Checks.told(8, 2, 8, "a:1i0dd0i1:d=i:1");
        d.due("the bits that are so", x.look(0b10000001), 0);
        d.due("a 1 that is 0", x.look(0b00000001), NONE);
        d.due("the last 1 that is 0", x.look(0b10000000), NONE);
        d.due("a 0 that is 1", x.look(0b10100001), NONE);
        d.due("the other 0 that is 1", x.look(0b10000101), NONE);
        d.due("i, its highest bit", x.field(0b11000001, 3), 2);
        d.due("i, its lowest bit", x.field(0b10000011, 3), 1);
        d.due("d, its highest bit", x.field(0b10010001, 0), 2);
        d.due("d, its lowest bit", x.field(0b10001001, 0), 1);
        d.due("all of a FIELD", tell("a:dsitdsit:d=0:1"), 0);
        for (int b = 6; b <= 12; b++) {
            OrdersTold y = Checks.told(8, 2, b, "a:i" + "0".repeat(b - 2) + "i:z=i:1");
            d.due("the highest bit of " + b, y.field(1 << b - 1, 3), 2);
            d.due("its LINE", Checks.line(y, "a 2"), 1 << b - 1);
            d.due("the lowest bit of " + b, y.field(1, 3), 1);
        }
    }

    private static void fields(Sentences d) {
        d.says("d, s, t name REGISTERS: each K times, or not at all");
        for (int k = 1; k <= 3; k++) {
            for (char f : "dst".toCharArray()) {
                String letter = String.valueOf(f);
                for (int times = 0; times <= 5; times++) {
                    String look = "0".repeat(10 - times) + letter.repeat(times);
                    boolean good = times == 0 || times == k;
                    d.due("K " + k + ", " + look, Checks.order(begun(8, k, 10), "a:" + look + ":z=0:1"), good ? 0 : -32);
                }
            }
        }
        d.due("all three", tell("a:00ddsstt:z=0:1"), 0);
        d.due("one of three too few", tell("a:000ddsst:z=0:1"), -30);
        d.due("one of three too many", tell("a:0dddsstt:z=0:1"), -30);
        OrdersTold x = doing(8, "d=s+t", 0, 20, 3);
        x.put(0, 0b0000_11_01_10_00);
        x.run(1);
        d.due("that REGISTER", x.get(0, 3), 23);

        d.says("i is a number: W times at most");
        for (int w = 2; w <= 8; w++) {
            String most = "0".repeat(12 - w) + "i".repeat(w);
            d.due("W times, W " + w, Checks.order(begun(w, 2, 12), "a:" + most + ":z=i:1"), 0);
            d.due("once more", Checks.order(begun(w, 2, 12), "a:" + most.substring(1) + "i:z=i:1"), -34);
            d.due("once less", Checks.order(begun(w, 2, 12), "a:0" + most.substring(0, 11) + ":z=i:1"), 0);
        }
        x = Checks.told(8, 2, 12, "a:00ddiiiiiiii:d=i:1");
        x.put(0, 255);
        x.run(1);
        d.due("the number", x.get(0, 0), 255);
    }

    private static void guard(Sentences d) {
        d.says("DOES: perhaps a GUARD: ? or ?! and d, s, t or z, then a comma");
        d.due("none", Checks.told(8, 1, 8, "a:00000dst:z=0:1").about(0, 2), 0);
        for (char on : "dstz".toCharArray()) {
            d.due("?" + on, Checks.told(8, 1, 8, "a:00000dst:?" + on + ",z=0:1").about(0, 2), 1);
            d.due("?!" + on, Checks.told(8, 1, 8, "a:00000dst:?!" + on + ",z=0:1").about(0, 2), 2);
        }
        d.due("i", tell("a:0000000i:?i,z=0:1"), -32);
        d.due("p", tell("a:0000000i:?p,z=0:1"), -32);
        d.due("a number", tell("a:0000000i:?1,z=0:1"), -32);
        d.due("MEMORY", tell("a:0000000i:?[i],z=0:1"), -32);
        d.due("nothing", tell("a:0000000i:?,z=0:1"), -32);
        d.due("?! of nothing", tell("a:0000000i:?!,z=0:1"), -33);
        d.due("! twice", tell("a:0000000i:?!!z,z=0:1"), -33);
        d.due("! alone", tell("a:0000000i:!z,z=0:1"), -31);
        d.due("no comma", tell("a:0000000i:?z z=0:1"), -34);
        d.due("two of them", tell("a:0000000i:?z,?z,z=0:1"), -34);
        d.due("behind an ACT", tell("a:0000000i:z=0,?z:1"), -35);
        d.due("nothing behind the comma", tell("a:0000000i:?z,:1"), -34);
    }

    private static void acts(Sentences d) {
        d.says("then 1 to 3 ACTS with , between: a TARGET = an OPERAND, or a TARGET = OPERAND SIGN OPERAND");
        d.due("one", Checks.told(8, 2, 8, "a:00000000:z=0:1").about(0, 1), 1);
        d.due("two", Checks.told(8, 2, 8, "a:00000000:z=0,z=1:1").about(0, 1), 2);
        d.due("three", Checks.told(8, 2, 8, "a:00000000:z=0,z=1+1,p=0:1").about(0, 1), 3);
        d.due("none", tell("a:00000000: :1"), -32);
        d.due("four", tell("a:00000000:z=0,z=1,p=0,z=1:1"), -42);
        d.due("a comma ahead", tell("a:00000000:,z=0:1"), -31);
        d.due("a comma behind", tell("a:00000000:z=0,:1"), -35);
        d.due("a comma behind three", tell("a:00000000:z=0,z=1,p=0,:1"), -42);
        d.due("no comma between", tell("a:00000000:z=0z=1:1"), -34);
        d.due("no =", tell("a:00000000:z0:1"), -32);
        d.due("= twice", tell("a:00000000:z==0:1"), -33);
        d.due("no OPERAND", tell("a:00000000:z=:1"), -33);
        d.due("no TARGET", tell("a:00000000:=0:1"), -31);
        d.due("no second OPERAND", tell("a:00000000:z=0+:1"), -35);
        d.due("a second SIGN", tell("a:00000000:z=0+1+2:1"), -36);
        d.due("two SIGNS", tell("a:00000000:z=0+-2:1"), -35);
    }

    private static void targets(Sentences d) {
        d.says("TARGETS: d s t (that REGISTER)");
        for (int n = 0; n < 3; n++) {
            OrdersTold x = doing(8, "dst".charAt(n) + "=9");
            x.run(1);
            for (int i = 0; i < 4; i++) {
                d.due("dst".charAt(n) + " is REGISTER " + n, x.get(0, i), i == n ? 9 : 0);
            }
        }
        d.due("no i", tell("a:0000000i:i=0:1"), -31);
        d.due("no number", tell("a:0000000i:1=0:1"), -31);

        d.says("z (1, if what it becomes is not 0)");
        int[] words = {0, 1, 2, 128, 255};
        for (int word : words) {
            OrdersTold x = doing(8, "z=s", 0, word);
            x.run(1);
            d.due("of " + word, x.get(2, 0), word == 0 ? 0 : 1);
        }
        OrdersTold x = doing(8, "z=s+t", 0, 255, 1);
        x.run(1);
        d.due("of what went round to 0", x.get(2, 0), 0);

        d.says("p (modulo 64)");
        int[][] places = {{0, 0}, {63, 63}, {64, 0}, {65, 1}, {127, 63}, {128, 0}, {255, 63}};
        for (int[] place : places) {
            x = doing(8, "p=s", 0, place[0]);
            x.run(1);
            d.due("of " + place[0], x.get(3, 0), place[1]);
        }

        d.says("[d] [s] [t] [i] (MEMORY at that WORD)");
        for (int n = 0; n < 4; n++) {
            x = doing(8, "[" + "dsti".charAt(n) + "]=77", 0, 255, 128);
            x.run(1);
            int[] where = {0, 255, 128, 3};
            for (int at : where) {
                d.due("[" + "dsti".charAt(n) + "] is not " + at, x.get(1, at), at == where[n] ? 77 : 0);
            }
        }
        x = doing(2, "[s]=3", 0, 3);
        x.run(1);
        d.due("the last of W 2", x.get(1, 3), 3);
        d.due("no [z]", tell("a:0000000i:[z]=0:1"), -32);
        d.due("no [p]", tell("a:0000000i:[p]=0:1"), -32);
        d.due("no [0]", tell("a:0000000i:[0]=0:1"), -32);
        d.due("no [[i]]", tell("a:0000000i:[[i]]=0:1"), -32);
        d.due("no []", tell("a:0000000i:[]=0:1"), -32);
        d.due("not closed", tell("a:0000000i:[i=0:1"), -33);
    }

    private static void operands(Sentences d) {
        d.says("OPERANDS: d s t i z p (p modulo 2^W) [d] [s] [t] [i]");
        String[] each = {"d", "s", "t", "i", "z", "p", "[d]", "[s]", "[t]", "[i]"};
        int[] due = {10, 20, 30, 3, 1, 1, 11, 21, 31, 4};
        for (int n = 0; n < each.length; n++) {
            OrdersTold x = doing(8, "d=" + each[n], 10, 20, 30);
            x.set(2, 0, 1);
            int[][] memory = {{10, 11}, {20, 21}, {30, 31}, {3, 4}};
            for (int[] word : memory) {
                x.set(1, word[0], word[1]);
            }
            x.run(1);
            d.due("d=" + each[n], x.get(0, 0), due[n]);
        }
        for (int w = 2; w <= 8; w++) {
            OrdersTold x = doing(w, "d=p");
            x.put(62, x.code(0));
            x.set(3, 0, 62);
            x.run(1);
            d.due("p is 63, W " + w, x.get(0, 0), 63 % (1 << w));
        }

        d.says("or a number 0 .. 255 (modulo 2^W)");
        for (int w = 2; w <= 8; w++) {
            d.due("0", becomes(w, "d=0", 1), 0);
            d.due("255, W " + w, becomes(w, "d=255"), (1 << w) - 1);
            d.due("2^W - 1", becomes(w, "d=" + ((1 << w) - 1)), (1 << w) - 1);
            d.due("2^W is 0", w == 8 ? 0 : becomes(w, "d=" + (1 << w), 1), 0);
            d.due("so it is below", becomes(w, "d=255<" + ((1 << w) - 1), 1), 0);
        }
        d.due("256", tell("a:00000000:z=256:1"), -33);
        d.due("256, the second", tell("a:00000000:z=0+256:1"), -35);
        d.due("below 0", tell("a:00000000:z=-1:1"), -33);
        d.due("a long one", tell("a:00000000:z=4294967296:1"), -33);
        d.due("longer than a long", tell("a:00000000:z=18446744073709551616:1"), -33);
    }

    private static void signs(Sentences d) {
        d.says("SIGNS: + - & | ^ < (1, if below, else 0)");
        char[] signs = "+-&|^<".toCharArray();
        int[] due = {218, 182, 0, 218, 218, 0};
        int[] turned = {218, 74, 0, 218, 218, 1};
        int[] like = {144, 0, 200, 200, 0, 0};
        for (int n = 0; n < signs.length; n++) {
            d.due("200" + signs[n] + "18", becomes(8, "d=s" + signs[n] + "t", 0, 200, 18), due[n]);
            d.due("18" + signs[n] + "200", becomes(8, "d=t" + signs[n] + "s", 0, 200, 18), turned[n]);
            d.due("200" + signs[n] + "200", becomes(8, "d=s" + signs[n] + "s", 0, 200, 18), like[n]);
        }
        d.due("0<255", becomes(8, "d=0<255"), 1);
        d.due("255<0", becomes(8, "d=255<0"), 0);
        for (char c : "*/%>!~=".toCharArray()) {
            d.due("no " + c, tell("a:00000000:z=1" + c + "2:1"), -34);
        }
    }

    private static void notInLook(Sentences d) {
        d.says("What is not in LOOK can't stand");
        for (char f : "dsti".toCharArray()) {
            String look = f == 'd' ? "000000ss" : "000000dd";
            d.due("an OPERAND " + f, tell("a:" + look + ":z=" + f + ":1"), -33);
            d.due("a second OPERAND " + f, tell("a:" + look + ":z=0+" + f + ":1"), -35);
            d.due("a TARGET " + f, tell("a:" + look + ":" + f + "=0:1"), -31);
            d.due("a TARGET [" + f + "]", tell("a:" + look + ":[" + f + "]=0:1"), -32);
            d.due("an OPERAND [" + f + "]", tell("a:" + look + ":z=[" + f + "]:1"), -34);
            d.due("a GUARD " + f, tell("a:" + look + ":?" + f + ",z=0:1"), -32);
        }
        d.due("z, p stand in any", tell("a:00000000:?z,z=p,p=z:1"), 0);
    }

    private static void faults(Sentences d) {
        d.says("FAULTS: -20 less the place of the first byte (behind blanks) that can't stand there (the end: how many bytes there are)");
        d.due("the first", tell("1"), -20);
        d.due("behind blanks", tell("   1"), -23);
        d.due("the first of two", tell("a1:2"), -21);
        d.due("behind blanks within", tell("a   1"), -24);
        d.due("the end of nothing", tell(""), -20);
        d.due("the end of blanks", tell("     "), -25);
        d.due("the end", tell("a:0000"), -26);
        d.due("the end behind blanks", tell("a:0000   "), -29);
        d.due("the end of 79", tell("a:00000000:z=0:" + " ".repeat(64)), -99);
        d.due("the end of 80", tell("a:00000000:z=0:" + " ".repeat(65)), -100);
        d.due("the 80th byte", tell("a:00000000:z=0:1" + " ".repeat(63) + "x"), -99);

        d.says("bytes 32 count for nothing");
        OrdersTold x = new OrdersTold();
        String spread = " a : 0 0 d d 0 0 0 0 : ? ! d , d = [ d ] + 1 2 , z = 0 : 7 ";
        d.due("but not in a number", Checks.order(x, spread), -20 - spread.indexOf("2 ,"));
        d.due("anywhere else", Checks.order(x, spread.replace("1 2", "12")), 0);
        d.due("its TICKS", x.about(0, 0), 7);
        d.due("its ACTS", x.about(0, 1), 2);
        d.due("its GUARD", x.about(0, 2), 2);
        d.due("behind a whole text", tell("a:00000000:z=0:1   "), 0);

        d.says("but do not stand in a NAME, a number");
        d.due("a NAME", tell("a b:00000000:z=0:1"), -22);
        d.due("a number", tell("a:00000000:z=1 2:1"), -35);
        d.due("a second number", tell("a:00000000:z=0+1  2:1"), -38);

        d.says("Of a NAME that is another's, a number beyond its first byte");
        x = Checks.told(8, 2, 8, "abc:00000000:z=0:1");
        d.due("another's", Checks.order(x, "abc:11111111:z=0:1"), -20);
        d.due("another's behind blanks", Checks.order(x, "  abc:11111111:z=0:1"), -22);
        d.due("another's alone", Checks.order(x, "abc"), -20);
        d.due("another's, with a fault behind it", Checks.order(x, " abc:2"), -21);
        d.due("just not beyond", tell("a:00000000:z=255:1"), 0);
        d.due("beyond", tell("a:00000000:z=256:1"), -33);
        d.due("beyond, behind blanks", tell("a:00000000:z=  256:1"), -35);
        d.due("beyond, with a fault behind it", tell("a:00000000:z=999x"), -33);
        d.due("beyond, behind the SIGN", tell("a:00000000:z=255-  1000"), -39);

        d.says("of LOOK with a FIELD not as told the byte behind LOOK");
        d.due("the :", tell("a:0000000d:z=0:1"), -30);
        d.due("behind blanks", tell("a:0000000d  :z=0:1"), -32);
        d.due("the end", tell("a:0000000d"), -30);
        d.due("what could not stand there anyhow", tell("a:0000000dd:z=0:1"), -30);
        d.due("i", Checks.order(begun(2, 1, 6), "a:000iii:z=0:1"), -28);
        d.due("not the byte within that is no LOOK's", tell("a:000d2ddd:z=0:1"), -26);
    }

    private static void sharedBits(Sentences d) {
        d.says("An ORDER is refused (NOT), if some bits would be it and another ORDER");
        OrdersTold x = Checks.told(8, 2, 8, "a:0000iiii:z=i:1");
        d.due("the same bits", Checks.order(x, "b:0000iiii:z=0:1"), NOT);
        d.due("one of them", Checks.order(x, "b:00001111:z=0:1"), NOT);
        d.due("more than them", Checks.order(x, "b:000iiiii:z=0:1"), NOT);
        d.due("crossing them", Checks.order(x, "b:iiii0000:z=0:1"), NOT);
        d.due("just beside them", Checks.order(x, "b:00010000:z=0:1"), 1);
        d.due("a bit that differs", Checks.order(x, "c:1iii0000:z=0:1"), 2);
        d.due("the second's bits", Checks.order(x, "e:iiii0000:z=0:1"), NOT);

        d.says("HOLES are bits that are no ORDER");
        x = new OrdersTold();
        d.due("all", x.holes(), 256);
        Checks.order(x, "a:0iiiiiii:z=i:1");
        d.due("half", x.holes(), 128);
        d.due("an ORDER", x.look(127), 0);
        d.due("a HOLE", x.look(128), NONE);
        Checks.order(x, "b:1iiiiiii:z=i:1");
        d.due("none", x.holes(), 0);
        x.unorder();
        d.due("half again", x.holes(), 128);
    }

    private static void done(Sentences d) {
        d.says("An ORDER is DONE: P is one more (63: 0)");
        OrdersTold x = Checks.told(8, 2, 8, "a:00000000:z=0:1");
        x.set(3, 0, 62);
        x.run(1);
        d.due("62", x.get(3, 0), 63);
        x.run(1);
        d.due("63", x.get(3, 0), 0);
        x.run(1);
        d.due("0", x.get(3, 0), 1);
        d.due("ahead of its ACTS", becomes(8, "d=p"), 1);

        d.says("with a GUARD: ? wants the REGISTER or Z not to be 0, ?! to be 0, else no ACT is done");
        int[] words = {0, 1, 255};
        for (int word : words) {
            d.due("?s of " + word, becomes(8, "?s,t=8,d=9", 0, word), word == 0 ? 0 : 9);
            d.due("?!s of " + word, becomes(8, "?!s,t=8,d=9", 0, word), word == 0 ? 9 : 0);
            OrdersTold y = doing(8, "?s,p=9,s=8,d=7", 0, word);
            y.run(1);
            d.due("p behind ?s of " + word, y.get(3, 0), word == 0 ? 1 : 9);
            d.due("s behind ?s of " + word, y.get(0, 1), word == 0 ? 0 : 8);
        }
        for (int z = 0; z < 2; z++) {
            for (int kind = 0; kind < 2; kind++) {
                OrdersTold y = doing(8, (kind == 0 ? "?z" : "?!z") + ",d=9", 0);
                y.set(2, 0, z);
                y.run(1);
                d.due((kind == 0 ? "?z of " : "?!z of ") + z, y.get(0, 0), z + kind == 1 ? 9 : 0);
            }
        }
        d.due("looked at once", becomes(8, "?d,d=0,d=d+5", 3), 5);

        d.says("ACTS are done one behind the other, each with what those ahead made");
        d.due("a REGISTER", becomes(8, "s=5,d=s+1,d=d+d"), 12);
        d.due("Z", becomes(8, "z=9,d=z+z"), 2);
        d.due("MEMORY", becomes(8, "[i]=9,d=[i]"), 9);
        d.due("where in MEMORY", becomes(8, "s=7,[s]=4,d=[s]"), 4);
        d.due("P", becomes(8, "p=40,d=p"), 40);
        d.due("not what those behind make", becomes(8, "d=s,s=9", 0, 4), 4);
    }
}
