/** Promises 16 to 24: code, the stepper, the pipe, going back. */
public final class StepperTest {
    private static final int BAD = OrdersTold.BAD, NOT = OrdersTold.NOT, STOP = OrdersTold.STOP;
    private static final int[] FAR = {Integer.MIN_VALUE, -1, Integer.MAX_VALUE};

    public static void main(String[] args) {
        Checks c = new Checks("stepper");
        putAndCode(c);
        setAndGet(c);
        wordsGoRound(c);
        acts(c);
        guards(c);
        jumps(c);
        runAndStop(c);
        waits(c);
        iNamesNoRegister(c);
        waitsAreForgotten(c);
        guesses(c);
        goBack(c);
        goBackFar(c);
        reset(c);
        c.end();
    }

    private static void putAndCode(Checks c) {
        OrdersTold x = new OrdersTold();
        c.due("16: first place", x.put(0, 255), 0);
        c.due("16: last place", x.put(63, 7), 0);
        c.due("16: what it was", x.put(0, 3), 255);
        c.due("17: first", x.code(0), 3);
        c.due("17: last", x.code(63), 7);
        c.due("16: no bits", x.put(0, 256), BAD);
        c.due("16: no place", x.put(64, 0), BAD);
        c.due("17: no place", x.code(64), BAD);
        for (int far : FAR) {
            c.due("16: far place", x.put(far, 0), BAD);
            c.due("16: far bits", x.put(0, far), BAD);
            c.due("17: far", x.code(far), BAD);
        }
        c.due("16: refused, it stays", x.code(0), 3);
        x.begin(8, 2, 12);
        c.due("16: highest bits", x.put(1, 4095), 0);
        c.due("16: beyond", x.put(1, 4096), BAD);
        c.due("17: twelve bits", x.code(1), 4095);
    }

    private static void setAndGet(Checks c) {
        OrdersTold x = new OrdersTold();
        c.due("18: register", x.set(0, 3, 255), 0);
        c.due("18: what it was", x.set(0, 3, 1), 255);
        c.due("18: memory", x.set(1, 255, 9), 0);
        c.due("18: z", x.set(2, -99, 1), 0);
        c.due("18: p", x.set(3, 12345, 63), 0);
        c.due("19: register", x.get(0, 3), 1);
        c.due("19: memory", x.get(1, 255), 9);
        c.due("19: z", x.get(2, Integer.MIN_VALUE), 1);
        c.due("19: p", x.get(3, Integer.MAX_VALUE), 63);
        int[][] wrong = {{0, 4, 0}, {0, -1, 0}, {0, 0, 256}, {0, 0, -1}, {1, 256, 0}, {1, -1, 0}, {1, 0, 256}, {1, 0, -1},
            {2, 0, 2}, {2, 0, -1}, {3, 0, 64}, {3, 0, -1}, {4, 0, 0}, {-1, 0, 0}, {Integer.MAX_VALUE, 0, 0},
            {Integer.MIN_VALUE, 0, 0}, {0, Integer.MIN_VALUE, 0}, {1, Integer.MAX_VALUE, 0}, {3, 0, Integer.MAX_VALUE}};
        for (int[] w : wrong) {
            c.due("18: set " + w[0] + " " + w[1] + " " + w[2], x.set(w[0], w[1], w[2]), BAD);
        }
        int[][] nowhere = {{0, 4}, {0, -1}, {1, 256}, {1, -1}, {4, 0}, {-1, 0}, {0, Integer.MIN_VALUE}, {1, Integer.MAX_VALUE}};
        for (int[] w : nowhere) {
            c.due("19: get " + w[0] + " " + w[1], x.get(w[0], w[1]), BAD);
        }
        c.due("18: refused, register stays", x.get(0, 3), 1);
        c.due("18: refused, z stays", x.get(2, 0), 1);
        c.due("18: refused, p stays", x.get(3, 0), 63);
        x.begin(3, 1, 6);
        c.due("18: W 3", x.set(0, 1, 7), 0);
        c.due("18: W 3 beyond", x.set(0, 1, 8), BAD);
        c.due("18: K 1 beyond", x.set(0, 2, 0), BAD);
        c.due("18: memory of W 3", x.set(1, 7, 7), 0);
        c.due("18: memory beyond", x.set(1, 8, 0), BAD);
    }

    /** An object of some W with one order, at place 0 with d 0, s 1, t 2, i 3. */
    private static OrdersTold doing(int w, String does) {
        OrdersTold x = new OrdersTold();
        x.begin(w, 2, 10);
        Checks.order(x, "a:00ddssttii:" + does + ":1");
        x.put(0, 0b00_00_01_10_11);
        return x;
    }

    private static void wordsGoRound(Checks c) {
        String signs = "++--&|^<<<";
        int[][] sides = {{9, 12}, {3, 4}, {9, 12}, {12, 9}, {9, 12}, {9, 12}, {9, 12}, {9, 12}, {12, 9}, {9, 9}};
        int[] ofFour = {5, 7, 13, 3, 8, 13, 5, 1, 0, 0};
        int[] ofEight = {21, 7, 253, 3, 8, 13, 5, 1, 0, 0};
        for (int n = 0; n < sides.length; n++) {
            for (int w = 4; w <= 8; w += 4) {
                OrdersTold x = doing(w, "d=s" + signs.charAt(n) + "t");
                x.set(0, 1, sides[n][0]);
                x.set(0, 2, sides[n][1]);
                x.run(1);
                c.due("21: " + sides[n][0] + signs.charAt(n) + sides[n][1] + " of " + w + " bits", x.get(0, 0),
                        w == 4 ? ofFour[n] : ofEight[n]);
            }
        }
        OrdersTold x = doing(4, "d=255");
        x.run(1);
        c.due("21: a number modulo 2^W", x.get(0, 0), 15);
        x = doing(3, "d=s<t,s=t<s");
        x.set(0, 1, 7);
        x.set(0, 2, 7);
        x.run(1);
        c.due("21: like is not below", x.get(0, 0) + x.get(0, 1), 0);
    }

    private static void acts(Checks c) {
        OrdersTold x = doing(8, "d=s,s=t,t=d");
        x.set(0, 0, 1);
        x.set(0, 1, 2);
        x.set(0, 2, 3);
        x.run(1);
        c.due("21: one behind the other", x.get(0, 0) * 100 + x.get(0, 1) * 10 + x.get(0, 2), 232);
        x.back(1);
        c.due("22: three stores", x.get(0, 0) * 100 + x.get(0, 1) * 10 + x.get(0, 2), 123);
        x = doing(8, "[d]=s,d=[d]+[i],[i]=z");
        x.set(0, 0, 77);
        x.set(0, 1, 5);
        x.set(1, 3, 6);
        x.run(1);
        c.due("21: into memory", x.get(1, 77), 5);
        c.due("21: from memory, just written", x.get(0, 0), 11);
        c.due("21: memory at i", x.get(1, 3), 0);
        x.back(1);
        c.due("22: memory as it was", x.get(1, 77) * 10 + x.get(1, 3), 6);
        x = doing(8, "[d]=i");
        x.set(1, 0, 8);
        x.run(1);
        c.due("21: memory at 0", x.get(1, 0), 3);
        x.back(1);
        c.due("22: memory at 0", x.get(1, 0), 8);
        c.due("22: and no register", x.get(0, 0), 0);
        x = doing(8, "z=s,d=z+z");
        x.set(0, 1, 128);
        x.run(1);
        c.due("21: z is 1", x.get(2, 0), 1);
        c.due("21: z as an operand", x.get(0, 0), 2);
        x = doing(8, "z=s-s");
        x.set(2, 0, 1);
        x.run(1);
        c.due("21: z is 0", x.get(2, 0), 0);
        x = doing(8, "d=1,[d]=[d]+1,d=2");
        x.run(1);
        c.due("21: where d is then", x.get(1, 1), 1);
        c.due("21: the latest act stays", x.get(0, 0), 2);
        x.back(1);
        c.due("22: one store twice", x.get(0, 0), 0);
    }

    private static void guards(Checks c) {
        String[] guards = {"?s", "?!s", "?z", "?!z"};
        for (int g = 0; g < 4; g++) {
            for (int v = 0; v < 2; v++) {
                OrdersTold x = doing(8, guards[g] + ",d=9,t=9");
                x.set(0, 1, g < 2 ? 4 * v : 0);
                x.set(2, 0, g < 2 ? 0 : v);
                x.run(1);
                boolean lets = (v == 1) == (g % 2 == 0);
                c.due("21: " + guards[g] + " of " + v, x.get(0, 0), lets ? 9 : 0);
                c.due("21: all acts or none", x.get(0, 2), lets ? 9 : 0);
                c.due("21: a step all the same", x.get(3, 0), 1);
            }
        }
    }

    private static void jumps(Checks c) {
        OrdersTold x = doing(8, "p=s");
        x.set(0, 1, 200);
        x.run(1);
        c.due("21: p modulo 64", x.get(3, 0), 8);
        x = doing(2, "d=p,s=p+1,p=p+3");
        x.set(3, 0, 62);
        x.put(62, 0b00_00_01_10_11);
        x.run(1);
        c.due("21: p is one more, modulo 2^W", x.get(0, 0), 3);
        c.due("21: and goes round", x.get(0, 1), 0);
        c.due("21: p from a word", x.get(3, 0), 2);
        x = doing(8, "d=p");
        x.put(63, 0b00_00_01_10_11);
        x.set(3, 0, 63);
        c.due("21: at the end of code", x.run(1), 1);
        c.due("21: behind 63 is 0", x.get(3, 0), 0);
        c.due("21: as the operand, too", x.get(0, 0), 0);
    }

    private static void runAndStop(Checks c) {
        OrdersTold x = new OrdersTold();
        Checks.order(x, "a:1ddiiiii:d=d+i:1");
        for (int i = 0; i < 5; i++) {
            x.put(i, 0x81);
        }
        c.due("21: none", x.run(0), BAD);
        c.due("21: too many", x.run(2001), BAD);
        for (int far : FAR) {
            c.due("21: far", x.run(far), BAD);
        }
        c.due("21: BAD ahead of STOP", new OrdersTold().run(0), BAD);
        c.due("21: till a hole", x.run(2000), 5);
        c.due("21: p is there", x.get(3, 0), 5);
        c.due("21: at once", x.run(1), STOP);
        c.due("23: refused, no step", x.so(0), 5);
        c.due("22: and back is as it was", x.back(1), 4);
        c.due("23: a step less", x.so(0), 4);
        for (int i = 0; i < 64; i++) {
            x.put(i, 0x81);
        }
        c.due("21: all of them", x.run(2000), 2000);
        c.due("21: words go round", x.get(0, 0), 2004 % 256);
        c.due("23: so many", x.so(0), 2004);
        c.due("23: no wrong guess", x.so(3), 0);
        c.due("23: what 4", x.so(4), BAD);
        for (int far : FAR) {
            c.due("23: far", x.so(far), BAD);
        }
    }

    /** TICKS by waits of the second of two orders, of fields d 0, s 1, t 2 and, if told so, with d and s the other way. */
    private static int waitsOf(String first, String second, int ticks, boolean turned) {
        OrdersTold x = new OrdersTold();
        x.begin(8, 2, 12);
        Checks.order(x, "a:000000ddsstt:" + first + ":" + ticks);
        Checks.order(x, "b:110000ddsstt:" + second + ":1");
        x.put(0, 0b000000_00_01_10);
        x.put(1, turned ? 0b110000_01_00_10 : 0b110000_00_01_10);
        x.run(2);
        return x.so(2) * 100 + x.so(1);
    }

    private static void waits(Checks c) {
        String[][] wait = {{"d=0", "z=d"}, {"d=0", "d=d+1"}, {"d=0", "[d]=0"}, {"d=0", "t=[d]"}, {"d=0", "?d,t=0"}, {"d=0", "?!d,t=0"},
            {"z=0", "t=z"}, {"z=0", "?z,t=0"}, {"[d]=0", "t=[s]"}, {"[d]=0", "d=s-[s]"}, {"?d,d=0", "t=d"}, {"s=0,d=0", "t=d"},
            {"d=0,s=0", "t=s"}, {"[s]=0,z=0", "t=1+z"}, {"d=0", "z=1,t=2,z=d"},
            {"t=0", "d=t"}, {"s=0", "?s,d=0"}, {"t=0", "[t]=0"}};
        String[][] none = {{"d=0", "d=0"}, {"d=0", "t=s"}, {"z=0", "z=1"}, {"[d]=0", "[d]=1"}, {"d=0", "[s]=t"}, {"p=0+1", "d=p"},
            {"[s]=0", "t=d"}, {"z=0", "?s,z=1"}};
        for (String[] two : wait) {
            c.due("23: wait of " + two[1] + " for " + two[0], waitsOf(two[0], two[1], 4, false), 300 + 5 + 3);
            c.due("23: none for one tick", waitsOf(two[0], two[1], 1, false), 2);
        }
        for (String[] two : none) {
            c.due("23: no wait of " + two[1] + " for " + two[0], waitsOf(two[0], two[1], 4, false), 5);
        }
        c.due("23: a register by its number", waitsOf("d=0", "t=s", 9, true), 800 + 10 + 8);
        c.due("23: another number", waitsOf("d=0", "t=d", 9, true), 10);
        c.due("23: once for two", waitsOf("d=0,s=0", "z=d+s", 3, false), 200 + 4 + 2);
    }

    private static void iNamesNoRegister(Checks c) {
        OrdersTold x = new OrdersTold();
        x.begin(8, 2, 10);
        Checks.order(x, "a:00ddssttii:d=0,s=0:9");
        x.put(0, 0b00_00_01_10_00);
        x.put(1, 0b11_00_01_10_00);
        Checks.order(x, "b:11ddssttii:t=[i],[i]=t:1");
        x.run(2);
        c.due("23: i names no register", x.so(2), 0);
    }

    private static OrdersTold waiting() {
        OrdersTold x = new OrdersTold();
        Checks.order(x, "a:11ddss00:z=0:1");
        Checks.order(x, "b:00ddss00:d=d+1:5");
        for (int i = 0; i < 64; i++) {
            x.put(i, 0);
        }
        x.run(1);
        return x;
    }

    private static void waitsAreForgotten(Checks c) {
        OrdersTold x = waiting();
        x.run(1);
        c.due("23: over two calls", x.so(2), 4);
        x = waiting();
        x.set(2, 0, 0);
        x.run(1);
        c.due("23: not over a set", x.so(2), 0);
        x.run(1);
        c.due("23: behind it, again", x.so(2), 4);
        x = waiting();
        x.set(2, 0, 2);
        x.back(9);
        x.back(0);
        x.run(0);
        x.run(1);
        c.due("23: what is refused changes nothing", x.so(2), 4);
        x = waiting();
        x.run(2);
        x.back(1);
        c.due("22: waits are as they were", x.so(2), 4);
        c.due("22: ticks, too", x.so(1), 14);
        x.run(1);
        c.due("23: not over a back", x.so(2), 4);
        x = waiting();
        x.unorder();
        Checks.order(x, "c:00ddss00:d=d+1:2");
        x.run(1);
        c.due("23: for the order that was done", x.so(2), 4);
        x = waiting();
        x.reset();
        x.run(1);
        c.due("20: not over a reset", x.so(2), 0);
    }

    private static void guesses(Checks c) {
        OrdersTold x = new OrdersTold();
        Checks.order(x, "j:00iiiiii:p=i:1");
        x.put(0, 5);
        x.put(5, 0);
        x.run(2);
        c.due("23: both were wrong", x.so(3), 2);
        c.due("23: ticks of both", x.so(1), 6);
        x.run(2);
        c.due("23: now they are right", x.so(3), 2);
        x.put(0, 1);
        x.run(1);
        c.due("23: wrong where it was right at first", x.so(3), 3);
        x.put(1, 2);
        x.put(2, 0);
        x.run(2);
        c.due("23: the next place is the guess", x.so(3), 4);
        c.due("24: F was", x.flush(9), 2);
        x.put(0, 63);
        x.put(63, 0);
        int ticks = x.so(1);
        x.run(2);
        c.due("24: 9 more, and behind 63 is 0", x.so(1) - ticks, 2 + 9);
        c.due("24: F was", x.flush(0), 9);
        x.put(0, 7);
        ticks = x.so(1);
        x.run(1);
        c.due("24: none more", x.so(1) - ticks, 1);
        c.due("23: but wrong", x.so(3), 6);
        x.back(1);
        c.due("22: guesses are as they were", x.so(3), 5);
        x.put(0, 63);
        x.run(1);
        c.due("22: the guess, too", x.so(3), 5);
        x.put(63, 20);
        x.run(1);
        x.back(1);
        x.put(63, 0);
        c.due("22: the guess at 63, too", x.run(1) + x.so(3), 1 + 5);
        c.due("24: 10", x.flush(10), BAD);
        for (int far : FAR) {
            c.due("24: far", x.flush(far), BAD);
        }
        c.due("24: refused", x.count(4), 0);
    }

    private static void goBack(Checks c) {
        OrdersTold x = Checks.ten();
        String[] lines = {"ldi 0,7", "st 0,0", "ld 1,0", "add 2,1,0", "cmp 1,2", "jz 1", "inc 3,1"};
        for (int i = 0; i < lines.length; i++) {
            x.put(i, Checks.line(x, lines[i]));
        }
        int[][] seen = new int[21][];
        for (int n = 0; n < 21; n++) {
            seen[n] = allOf(x);
            if (n < 20) {
                x.run(1);
            }
        }
        c.due("22: 20 can be", x.back(21), NOT);
        for (int n = 19; n >= 0; n--) {
            c.due("22: how many are left", x.back(1), n);
            int[] now = allOf(x);
            for (int i = 0; i < now.length; i++) {
                c.due("22: as it was, " + i + " ahead of step " + n, now[i], seen[n][i]);
            }
        }
        c.due("22: none is left", x.back(1), NOT);
    }

    private static int[] allOf(OrdersTold x) {
        return new int[] {x.get(0, 0), x.get(0, 1), x.get(0, 2), x.get(0, 3), x.get(1, 7), x.get(2, 0), x.get(3, 0),
            x.so(0), x.so(3)};
    }

    private static void goBackFar(Checks c) {
        OrdersTold x = new OrdersTold();
        Checks.order(x, "a:00ddiiii:d=d+i:1");
        for (int i = 0; i < 64; i++) {
            x.put(i, 1);
        }
        c.due("22: none yet", x.back(1), NOT);
        x.run(250);
        c.due("22: 101", x.back(101), BAD);
        c.due("22: 0", x.back(0), BAD);
        for (int far : FAR) {
            c.due("22: far", x.back(far), BAD);
        }
        c.due("22: some", x.back(40), 60);
        c.due("22: too many now", x.back(61), NOT);
        c.due("22: nothing changed", x.get(0, 0), 210);
        x.run(10);
        c.due("22: those and the new ones", x.back(70), 0);
        c.due("22: where the latest 100 began", x.get(0, 0), 150);
        c.due("22: none beyond", x.back(1), NOT);
        x.run(100);
        c.due("22: all 100", x.back(100), 0);
        x.run(5);
        x.set(1, 0, 3);
        c.due("22: none beyond a set", x.back(1), NOT);
        x.run(2);
        c.due("22: those behind the set", x.back(2), 0);
        x.run(5);
        x.set(1, 0, 300);
        x.put(9, 9);
        c.due("22: over a refused set, over a put", x.back(5), 0);
    }

    private static void reset(Checks c) {
        OrdersTold x = Checks.ten();
        x.put(0, Checks.line(x, "ldi 1,7"));
        x.put(1, Checks.line(x, "st 1,1"));
        x.put(2, Checks.line(x, "jz 0"));
        x.flush(5);
        x.variables(2);
        Checks.sum(x, "a+b");
        x.run(10);
        c.due("20: reset", x.reset(), 1);
        for (int i = 0; i < 4; i++) {
            c.due("20: register", x.get(0, i), 0);
            c.due("20: so", x.so(i), 0);
        }
        c.due("20: memory", x.get(1, 7), 0);
        c.due("20: z", x.get(2, 0), 0);
        c.due("20: p", x.get(3, 0), 0);
        c.due("20: code stays", x.code(2), 0xE0);
        c.due("20: F stays", x.count(4), 5);
        c.due("20: orders stay", x.count(0), 10);
        c.due("20: V stays", x.count(3), 2);
        c.due("20: the sum stays", x.price(), 1);
        c.due("22: none beyond a reset", x.back(1), NOT);
        x.run(3);
        c.due("20: guesses are as at first", x.so(3), 1);
        c.due("20: ticks are as at first", x.so(1), 2 + 3 + 1 + 1 + 2 + 5);
    }
}
