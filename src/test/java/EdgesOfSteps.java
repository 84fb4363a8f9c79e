/** What section 3 of the document's terms says, with promises 16 to 24: code, steps, the pipe, going back. */
final class EdgesOfSteps {
    private static final int BAD = OrdersTold.BAD, NOT = OrdersTold.NOT, STOP = OrdersTold.STOP;
    private static final int[] FAR = {Integer.MIN_VALUE, -1, Integer.MAX_VALUE};

    private EdgesOfSteps() {
    }

    static void all(Sentences d) {
        d.in("3");
        steps(d);
        back(d);
        waits(d);
        waitsBetween(d);
        waitsNamed(d);
        guesses(d);
        backInThePipe(d);
        codePromises(d);
        storePromises(d);
        resetPromise(d);
        runPromise(d);
        backPromise(d);
        soPromise(d);
        flushPromise(d);
    }

    /** Code that is all one order, d=d+1 of REGISTER 0, of some ticks; bits 255 are a hole. */
    private static OrdersTold counting(int ticks) {
        return Checks.told(8, 2, 8, "a:00dd0000:d=d+1:" + ticks);
    }

    private static void steps(Sentences d) {
        d.says("THE STEPPER: REGISTERS, MEMORY, Z, P all 0 at first");
        OrdersTold x = new OrdersTold();
        for (int i = 0; i < 256; i++) {
            d.due("MEMORY at " + i, x.get(1, i), 0);
        }
        for (int i = 0; i < 4; i++) {
            d.due("REGISTER " + i, x.get(0, i), 0);
        }
        d.due("Z", x.get(2, 0), 0);
        d.due("P", x.get(3, 0), 0);

        d.says("A STEP does the ORDER at P");
        x = counting(1);
        x.put(7, 0b00_11_0000);
        x.set(3, 0, 7);
        x.run(1);
        d.due("at 7", x.get(0, 3), 1);
        d.due("not at 0", x.get(0, 0), 0);
        x.put(63, 0b00_01_0000);
        x.set(3, 0, 63);
        x.run(1);
        d.due("at 63", x.get(0, 1), 1);
        x.run(1);
        d.due("then at 0", x.get(0, 0), 1);

        d.says("on a HOLE: STOP");
        x.put(1, 255);
        d.due("on a HOLE", x.run(1), STOP);
        d.due("nothing is done", x.get(3, 0), 1);
        x.unorder();
        x.set(3, 0, 0);
        d.due("an ORDER that is gone is a HOLE", x.run(1), STOP);
        d.due("all is one at first", new OrdersTold().run(1), STOP);
    }

    private static void back(Sentences d) {
        d.says("STEPS can be gone BACK, the latest 100 (none beyond a reset(), a set())");
        OrdersTold x = counting(1);
        x.run(99);
        d.due("of 99, 100", x.back(100), NOT);
        d.due("of 99, 99", x.back(99), 0);
        x.run(100);
        d.due("of 100, 100", x.back(100), 0);
        d.due("all are gone BACK", x.get(0, 0), 0);
        x.run(101);
        d.due("of 101, 100", x.back(100), 0);
        d.due("one is not", x.get(0, 0), 1);
        d.due("no more", x.back(1), NOT);
        x.run(2000);
        d.due("of 2000, 60", x.back(60), 40);
        d.due("of 100, 60 and 41", x.back(41), NOT);
        x.run(60);
        d.due("60 of 60 new, 40 old ones", x.back(100), 0);
        d.due("those", x.get(0, 0), (2001 - 100) % 256);
        x.run(70);
        x.back(20);
        x.run(60);
        d.due("of 50 and 60 the latest 100", x.back(99), 1);
        x = counting(1);
        x.run(5);
        x.reset();
        d.due("none beyond a reset()", x.back(1), NOT);
        x.run(3);
        d.due("those behind it", x.back(3), 0);
        for (int what = 0; what < 4; what++) {
            x.run(5);
            x.set(what, 0, 1);
            d.due("none beyond a set() of " + what, x.back(1), NOT);
            x.run(3);
            d.due("not so many", x.back(4), NOT);
            d.due("those behind it", x.back(3), 0);
        }
        x.run(5);
        x.set(0, 0, x.get(0, 0));
        d.due("none beyond a set() to what it was", x.back(1), NOT);
        x.run(5);
        x.set(0, 0, 256);
        d.due("beyond a refused set()", x.back(5), 0);
        x.run(5);
        x.put(9, 255);
        x.flush(3);
        x.unorder();
        d.due("beyond all else", x.back(5), 0);
    }

    /** Two orders, a then b, each of d 0, s 1, t 2; 100 times WAITS and the TICKS behind both. */
    private static int both(String a, int ticks, String b) {
        OrdersTold x = Checks.told(8, 2, 12, "a:000000ddsstt:" + a + ":" + ticks, "b:110000ddsstt:" + b + ":1");
        x.put(0, 0b000000_00_01_10);
        x.put(1, 0b110000_00_01_10);
        x.run(2);
        return 100 * x.so(2) + x.so(1);
    }

    private static void waits(Sentences d) {
        d.says("THE PIPE counts TICKS: of each STEP the ORDER's TICKS");
        for (int t = 1; t <= 9; t++) {
            OrdersTold x = Checks.told(8, 2, 8, "a:00000000:z=0:" + t);
            x.run(3);
            d.due("three of " + t, x.so(1), 3 * t);
        }
        OrdersTold y = Checks.told(8, 2, 8, "a:00000000:?z,p=p:4");
        y.run(3);
        d.due("whether the GUARD lets it or not", y.so(1), 12);

        d.says("WAITS: if there was a STEP just ahead");
        OrdersTold x = counting(5);
        x.run(1);
        d.due("there was none", x.so(2), 0);
        x.run(1);
        d.due("there was", x.so(2), 4);
        d.due("not one further ahead", waitsOfThree(), 0);

        d.says("its ORDER has TICKS t above 1, and");
        d.due("1", both("d=0", 1, "z=d"), 2);
        d.due("2", both("d=0", 2, "z=d"), 100 + 3 + 1);

        d.says("t - 1 more");
        for (int t = 1; t <= 9; t++) {
            d.due("t " + t, both("d=0", t, "z=d"), 100 * (t - 1) + t + 1 + t - 1);
        }
        d.due("but once", both("d=0,s=0,t=0", 9, "?d,z=s+t"), 800 + 10 + 8);
    }

    private static int waitsOfThree() {
        OrdersTold x = Checks.told(8, 2, 8, "a:00000000:z=0:5", "b:00000001:p=p:1", "c:00000010:p=z+2:1");
        x.put(1, 1);
        x.put(2, 2);
        x.run(3);
        return x.so(2);
    }

    private static void waitsBetween(Sentences d) {
        d.says("(with no reset(), set(), back() between)");
        OrdersTold x = counting(5);
        x.run(1);
        x.reset();
        x.run(1);
        d.due("reset()", x.so(2), 0);
        for (int what = 0; what < 4; what++) {
            x = counting(5);
            x.run(1);
            x.set(what, 0, x.get(what, 0));
            x.run(1);
            d.due("set() of " + what, x.so(2), 0);
            x.run(1);
            d.due("and then none", x.so(2), 4);
        }
        x = counting(5);
        x.run(2);
        x.back(1);
        x.run(1);
        d.due("back()", x.so(2), 0);
        x.run(1);
        d.due("and then none", x.so(2), 4);
        x = counting(5);
        x.run(1);
        x.set(0, 0, 256);
        x.set(4, 0, 0);
        x.back(2);
        x.back(0);
        x.begin(0, 0, 0);
        x.run(1);
        d.due("refused ones are none between", x.so(2), 4);
        x = counting(5);
        x.run(1);
        x.put(40, 9);
        x.flush(7);
        x.get(0, 0);
        x.put(1, 255);
        d.due("a HOLE between", x.run(1), STOP);
        x.put(1, 0);
        x.run(1);
        d.due("others are none between", x.so(2), 4);
    }

    private static void waitsNamed(Sentences d) {
        int none = 5;
        int waited = 300 + 5 + 3;
        d.says("one of its TARGETS (a REGISTER by its number");
        String[][] registers = {{"d", "s"}, {"s", "t"}, {"t", "d"}};
        for (String[] two : registers) {
            d.due(two[0], both(two[0] + "=0", 4, "z=" + two[0]), waited);
            d.due("another", both(two[0] + "=0", 4, "z=" + two[1]), none);
            d.due("the first of three", both(two[0] + "=0,z=0,[d]=0", 4, "z=" + two[0]), waited);
            d.due("the last of three", both("z=0,p=1," + two[0] + "=0", 4, "z=" + two[0]), waited);
        }
        OrdersTold x = Checks.told(8, 2, 8, "a:0000ddss:d=1:4", "b:1111ddss:z=s:1");
        x.put(0, 0b0000_11_00);
        x.put(1, 0b1111_00_11);
        x.put(2, 0b0000_11_00);
        x.put(3, 0b1111_11_00);
        x.run(2);
        d.due("d 3 of one is s 3 of the other", x.so(2), 3);
        x.run(2);
        d.due("d 3 is not s 0", x.so(2), 3);
        d.due("REGISTER 7 is not Z", waitsForTheLast("s=z"), 0);
        d.due("REGISTER 7 is not MEMORY", waitsForTheLast("s=[t]"), 0);
        d.due("REGISTER 7 is itself", waitsForTheLast("s=d"), 3);

        d.says("MEMORY as a whole");
        d.due("[d], [s] are one", both("[d]=0", 4, "z=[s]"), waited);
        d.due("it is no REGISTER", both("[d]=0", 4, "z=d"), none);
        d.due("nor Z", both("[d]=0", 4, "s=z"), none);
        d.due("nor a number", both("[d]=0", 4, "s=0"), none);
        d.due("ahead of other TARGETS", both("[d]=0,s=0", 4, "z=[t]"), waited);

        d.says("Z; whether the GUARD let it or not)");
        d.due("Z", both("z=0", 4, "d=z"), waited);
        d.due("it is no REGISTER", both("z=0", 4, "s=d"), none);
        d.due("nor MEMORY", both("z=0", 4, "d=[s]"), none);
        d.due("the GUARD let it not", both("?d,s=0", 4, "z=s"), waited);
        d.due("the GUARD let it", both("?!d,s=0", 4, "z=s"), waited);
        d.due("this one's GUARD lets it not", both("s=0", 4, "?d,z=s"), waited);
        d.due("P is none of them", both("p=p", 4, "d=p"), none);

        d.says("is NAMED by this ORDER (a REGISTER as an OPERAND, in [ ] anywhere, in the GUARD");
        String[] naming = {"z=s", "z=s+1", "z=1-s", "[s]=0", "z=[s]", "z=1|[s]", "?s,z=0", "?!s,z=0", "z=0,z=0,z=s", "s=s", "z=s+t", "z=d-s"};
        for (String does : naming) {
            d.due(does, both("s=0", 4, does), waited);
        }
        String[] not = {"s=0", "s=d", "z=d", "[d]=t", "?d,s=t", "z=z"};
        for (String does : not) {
            d.due(does, both("s=0", 4, does), none);
        }
        d.due("i is no REGISTER", waitsBesideI("d=0,s=0,t=0", "[i]=i"), 0);
        d.due("nor in [ ]", waitsBesideI("d=0,s=0,t=0", "p=p,[i]=[i]"), 0);
        d.due("nor Z", waitsBesideI("z=0", "d=[i]+i"), 0);
        d.due("one beside it is", waitsBesideI("d=0,s=0,t=0", "[i]=t"), 3);

        d.says("MEMORY as an OPERAND");
        String[] reading = {"z=[d]", "z=1+[d]", "z=[t]-1"};
        for (String does : reading) {
            d.due(does, both("[s]=0", 4, does), waited);
        }
        d.due("not as a TARGET", both("[s]=0", 4, "[s]=1"), none);
        d.due("not as a TARGET at another place", both("[s]=0", 4, "[t]=d"), none);

        d.says("Z as an OPERAND, in the GUARD)");
        String[] ofZ = {"d=z", "d=1+z", "z=z", "?z,d=0", "?!z,d=0"};
        for (String does : ofZ) {
            d.due(does, both("z=0", 4, does), waited);
        }
        d.due("not as a TARGET", both("z=0", 4, "z=1"), none);
    }

    /** WAITS of an order with d 7 behind one that has REGISTER 7 as its target. */
    private static int waitsForTheLast(String does) {
        OrdersTold x = Checks.told(8, 3, 12, "a:000dddsssttt:d=0:4", "b:111dddsssttt:" + does + ":1");
        x.put(0, 0b000_111_000_001);
        x.put(1, 0b111_111_000_001);
        x.run(2);
        return x.so(2);
    }

    /** WAITS of b behind a, both of d 0, s 1, t 2, i 3. */
    private static int waitsBesideI(String a, String b) {
        OrdersTold x = Checks.told(8, 2, 12, "a:0000ddssttii:" + a + ":4", "b:1111ddssttii:" + b + ":1");
        x.put(0, 0b0000_00_01_10_11);
        x.put(1, 0b1111_00_01_10_11);
        x.run(2);
        return x.so(2);
    }

    private static OrdersTold jumping() {
        return Checks.told(8, 2, 8, "j:00iiiiii:p=i:1");
    }

    private static void guesses(Sentences d) {
        d.says("GUESSES: of each place where P is behind it (the next place, 63: 0, at first)");
        for (int place = 0; place < 64; place++) {
            OrdersTold x = jumping();
            x.set(3, 0, place);
            x.put(place, (place + 1) % 64);
            x.run(1);
            d.due("the next of " + place, x.so(3), 0);
            x.set(3, 0, place);
            x.put(place, (place + 2) % 64);
            x.run(1);
            d.due("another of " + place, x.so(3), 1);
        }

        d.says("if P is another: F more (0 .. 9; 2 at first)");
        OrdersTold x = jumping();
        x.put(0, 5);
        x.run(1);
        d.due("2 at first", x.so(1), 3);
        for (int f = 0; f <= 9; f++) {
            x = jumping();
            x.flush(f);
            x.put(0, 5);
            x.run(1);
            d.due("F " + f, x.so(1), 1 + f);
            d.due("wrong all the same", x.so(3), 1);
        }
        d.due("10", x.flush(10), BAD);
        d.due("-1", x.flush(-1), BAD);
        x = jumping();
        x.put(0, 1);
        x.run(1);
        d.due("none more, if P is that", x.so(1), 1);

        d.says("and the guess is that then");
        x = jumping();
        x.put(0, 5);
        x.put(5, 0);
        x.run(4);
        d.due("wrong once each", x.so(3), 2);
        d.due("TICKS", x.so(1), 4 + 2 * 2);
        x.put(0, 1);
        x.put(1, 0);
        x.run(1);
        d.due("the next place is wrong now", x.so(3), 3);
        x.run(2);
        d.due("of each place its own", x.so(3), 4);
        x.set(0, 0, 7);
        x.set(3, 0, 0);
        x.run(1);
        d.due("over a set()", x.so(3), 4);
    }

    private static void backInThePipe(Sentences d) {
        d.says("BACK all this is as it was, too");
        OrdersTold x = Checks.told(8, 2, 8, "a:00dd0000:d=d+1:5", "j:11iiiiii:p=i:1");
        x.put(3, 0b11_000000);
        int[][] seen = new int[9][];
        for (int n = 0; n < 9; n++) {
            seen[n] = new int[] {x.so(0), x.so(1), x.so(2), x.so(3), x.get(0, 0), x.get(3, 0)};
            x.run(1);
        }
        for (int n = 8; n >= 0; n--) {
            x.back(1);
            int[] now = {x.so(0), x.so(1), x.so(2), x.so(3), x.get(0, 0), x.get(3, 0)};
            String[] what = {"STEPS", "TICKS", "WAITS", "GUESSES", "REGISTER 0", "P"};
            for (int i = 0; i < now.length; i++) {
                d.due(what[i] + " ahead of STEP " + n, now[i], seen[n][i]);
            }
        }
        x.run(4);
        d.due("the guess, too: wrong again", x.so(3), 1);
        x.run(4);
        x.back(4);
        x.run(4);
        d.due("the guess, too: right again", x.so(3), 1);
        x.flush(9);
        x.back(8);
        d.due("TICKS by another F", x.so(1), 0);
        x.run(4);
        d.due("with the new F then", x.so(1), 5 + 5 + 4 + 5 + 4 + 1 + 9);
    }

    private static void codePromises(Sentences d) {
        OrdersTold x = new OrdersTold();
        d.in("promise 16");
        d.says("CODE at a place becomes bits: what it was");
        d.due("the first", x.put(0, 255), 0);
        d.due("again", x.put(0, 1), 255);
        d.due("the last", x.put(63, 7), 0);
        d.due("again", x.put(63, 0), 7);
        d.due("what is no ORDER, too", x.code(0), 1);
        d.says("BAD");
        d.due("place 64", x.put(64, 0), BAD);
        d.due("bits 256", x.put(0, 256), BAD);
        for (int far : FAR) {
            d.due("place " + far, x.put(far, 0), BAD);
            d.due("bits " + far, x.put(0, far), BAD);
        }
        d.due("it is as it was", x.code(0), 1);

        d.in("promise 17");
        d.says("CODE at a place");
        x.put(63, 9);
        d.due("the first", x.code(0), 1);
        d.due("between", x.code(31), 0);
        d.due("the last", x.code(63), 9);
        d.says("BAD");
        d.due("64", x.code(64), BAD);
        for (int far : FAR) {
            d.due("far", x.code(far), BAD);
        }
    }

    private static void storePromises(Sentences d) {
        OrdersTold x = Checks.told(4, 1, 6);
        d.in("promise 18");
        d.says("REGISTER i (what 0), MEMORY at i (1), Z (2), P (3; of these i is not looked at) becomes v: what it was");
        int[][] good = {{0, 0, 15}, {0, 1, 14}, {1, 0, 13}, {1, 15, 12}, {2, 0, 1}, {3, 0, 63}};
        for (int[] one : good) {
            d.due("set " + one[0] + ", " + one[1], x.set(one[0], one[1], one[2]), 0);
        }
        for (int[] one : good) {
            d.due("what it was, " + one[0] + ", " + one[1], x.set(one[0], one[1], 0), one[2]);
        }
        for (int far : FAR) {
            d.due("Z, i " + far, x.set(2, far, 1), 0);
            d.due("P, i " + far, x.set(3, far, 63), 0);
            x.set(2, 0, 0);
            x.set(3, 0, 0);
        }
        d.says("BAD");
        int[][] wrong = {{0, 2, 0}, {0, 0, 16}, {1, 16, 0}, {1, 0, 16}, {2, 0, 2}, {3, 0, 64}, {4, 0, 0}};
        for (int[] one : wrong) {
            d.due("set " + one[0] + ", " + one[1] + ", " + one[2], x.set(one[0], one[1], one[2]), BAD);
        }
        for (int far : FAR) {
            d.due("what " + far, x.set(far, 0, 0), BAD);
            for (int what = 0; what < 4; what++) {
                d.due("v " + far + " of " + what, x.set(what, 0, far), BAD);
            }
            d.due("REGISTER " + far, x.set(0, far, 0), BAD);
            d.due("MEMORY at " + far, x.set(1, far, 0), BAD);
        }

        d.in("promise 19");
        d.says("What is there");
        for (int[] one : good) {
            x.set(one[0], one[1], one[2]);
        }
        for (int[] one : good) {
            d.due("get " + one[0] + ", " + one[1], x.get(one[0], one[1]), one[2]);
        }
        for (int far : FAR) {
            d.due("Z, i " + far, x.get(2, far), 1);
            d.due("P, i " + far, x.get(3, far), 63);
        }
        d.says("BAD");
        d.due("no REGISTER", x.get(0, 2), BAD);
        d.due("no WORD", x.get(1, 16), BAD);
        d.due("what 4", x.get(4, 0), BAD);
        for (int far : FAR) {
            d.due("what " + far, x.get(far, 0), BAD);
            d.due("REGISTER " + far, x.get(0, far), BAD);
            d.due("MEMORY at " + far, x.get(1, far), BAD);
        }
    }

    private static void resetPromise(Sentences d) {
        d.in("promise 20");
        d.says("All of THE STEPPER and THE PIPE as at first (CODE, F stay): 1");
        OrdersTold x = Checks.told(8, 2, 8, "a:00ddss00:[d]=9,d=d+7,z=1:5", "j:11iiiiii:p=i:1");
        x.put(1, 0b11_000101);
        x.put(63, 0b11_000000);
        x.flush(4);
        x.variables(3);
        Checks.sum(x, "7");
        x.run(9);
        x.set(0, 3, 8);
        x.set(1, 255, 8);
        d.due("reset", x.reset(), 1);
        for (int i = 0; i < 4; i++) {
            d.due("REGISTER " + i, x.get(0, i), 0);
            d.due("so " + i, x.so(i), 0);
        }
        d.due("MEMORY at 0", x.get(1, 0), 0);
        d.due("MEMORY at 255", x.get(1, 255), 0);
        d.due("Z", x.get(2, 0), 0);
        d.due("P", x.get(3, 0), 0);
        d.due("no STEP to go BACK", x.back(1), NOT);
        d.due("CODE", x.code(1), 0b11_000101);
        d.due("CODE at 63", x.code(63), 0b11_000000);
        d.due("F", x.count(4), 4);
        d.due("ORDERS", x.count(0), 2);
        d.due("V", x.count(3), 3);
        d.due("THE SUM", x.value(), 7);
        x.run(2);
        d.due("the guess is the next place", x.so(3), 1);
        d.due("no WAIT, TICKS by F", x.so(1), 5 + 1 + 4);
        x.reset();
        d.due("again", x.reset(), 1);
    }

    private static void runPromise(Sentences d) {
        d.in("promise 21");
        OrdersTold x = counting(1);
        d.says("n STEPS (1 .. 2000), or till a HOLE: how many");
        d.due("1", x.run(1), 1);
        d.due("one is done", x.get(0, 0), 1);
        d.due("2000", x.run(2000), 2000);
        d.due("so many are done", x.so(0), 2001);
        x.put(63, 255);
        x.set(3, 0, 60);
        d.due("till a HOLE", x.run(2000), 3);
        d.due("it is at P", x.get(3, 0), 63);
        x.set(3, 0, 60);
        d.due("just up to it", x.run(3), 3);
        d.says("BAD");
        d.due("0", x.run(0), BAD);
        d.due("2001", x.run(2001), BAD);
        for (int far : FAR) {
            d.due("far", x.run(far), BAD);
        }
        d.due("ahead of STOP", x.run(0), BAD);
        d.says("STOP: there is one at once");
        d.due("1", x.run(1), STOP);
        d.due("2000", x.run(2000), STOP);
        d.due("no STEP more", x.so(0), 2007);
    }

    private static void backPromise(Sentences d) {
        d.in("promise 22");
        OrdersTold x = counting(1);
        d.says("n STEPS (1 .. 100) are gone BACK: how many can be still");
        x.run(200);
        d.due("1", x.back(1), 99);
        d.due("one is gone BACK", x.get(0, 0), 199);
        x.run(1);
        d.due("100", x.back(100), 0);
        d.due("100 are", x.get(0, 0), 100);
        x.run(100);
        d.due("99", x.back(99), 1);
        allStores(d);
        d.says("BAD");
        d.due("0", x.back(0), BAD);
        d.due("101", x.back(101), BAD);
        for (int far : FAR) {
            d.due("far", x.back(far), BAD);
        }
        d.due("ahead of NOT", new OrdersTold().back(101), BAD);
        d.says("NOT: there are not so many");
        d.due("2 of 1", x.back(2), NOT);
        d.due("100 of 1", x.back(100), NOT);
        d.due("none is gone BACK", x.get(0, 0), 101);
        d.due("1 of 1", x.back(1), 0);
        d.due("1 of none", x.back(1), NOT);
        d.due("at first", new OrdersTold().back(1), NOT);
    }

    private static int[] storesOf(OrdersTold x) {
        int[] stores = new int[14];
        for (int i = 0; i < 8; i++) {
            stores[i] = x.get(0, i);
        }
        for (int i = 0; i < 4; i++) {
            stores[8 + i] = x.get(1, i);
        }
        stores[12] = x.get(2, 0);
        stores[13] = x.get(3, 0);
        return stores;
    }

    /** Each order changes some store twice or three stores at once. */
    private static void allStores(Sentences d) {
        OrdersTold x = Checks.told(2, 3, 12, "a:000dddsss000:[d]=s,s=d,d=0:1", "b:001dddsss000:[s]=2,[s]=1,z=z^1:1",
                "c:010dddsss000:d=1,d=2,s=z:1", "e:0110000000ii:z=z^1,p=i,[i]=3:1");
        String[] lines = {"a 7,1", "b 6,4", "c 5,7", "e 0"};
        for (int place = 0; place < lines.length; place++) {
            x.put(place, Checks.line(x, lines[place]));
        }
        for (int i = 0; i < 8; i++) {
            x.set(0, i, 3 - i % 4);
            x.set(1, i % 4, 1 + i % 3);
        }
        int[][] seen = new int[9][];
        for (int n = 0; n < 9; n++) {
            seen[n] = storesOf(x);
            x.run(1);
        }
        for (int n = 8; n >= 0; n--) {
            d.due("so many left", x.back(1), n);
            int[] now = storesOf(x);
            for (int i = 0; i < now.length; i++) {
                d.due("store " + i + " ahead of STEP " + n, now[i], seen[n][i]);
            }
        }
    }

    private static void soPromise(Sentences d) {
        d.in("promise 23");
        d.says("So far, since begin(), reset()");
        OrdersTold x = counting(5);
        x.put(1, 255);
        x.run(9);
        x.set(3, 0, 0);
        x.run(9);
        d.due("over a set()", x.so(0), 2);
        x.reset();
        d.due("since reset()", x.so(0) + x.so(1) + x.so(2) + x.so(3), 0);
        x.run(1);
        x.begin(8, 2, 8);
        d.due("since begin()", x.so(0) + x.so(1) + x.so(2) + x.so(3), 0);
        String[] sentences = {"0 STEPS", "1 TICKS", "2 WAITS (TICKS by them)", "3 GUESSES that were wrong"};
        int[] due = {4, 3 * 4 + 1 + 2 * 3 + 2, 6, 1};
        x = Checks.told(8, 2, 8, "a:00000000:z=z:4", "j:00000001:p=63:1");
        x.put(3, 1);
        x.run(4);
        for (int what = 0; what < 4; what++) {
            d.says(sentences[what]);
            d.due("so " + what, x.so(what), due[what]);
            d.due("at first", new OrdersTold().so(what), 0);
        }
        d.says("BAD");
        d.due("what 4", x.so(4), BAD);
        for (int far : FAR) {
            d.due("what " + far, x.so(far), BAD);
        }
    }

    private static void flushPromise(Sentences d) {
        d.in("promise 24");
        OrdersTold x = new OrdersTold();
        d.says("F: what it was");
        d.due("2 at first", x.flush(0), 2);
        d.due("0", x.flush(9), 0);
        d.due("9", x.flush(9), 9);
        d.due("it is so", x.count(4), 9);
        d.says("BAD");
        d.due("10", x.flush(10), BAD);
        for (int far : FAR) {
            d.due("far", x.flush(far), BAD);
        }
        d.due("it is as it was", x.count(4), 9);
    }
}
