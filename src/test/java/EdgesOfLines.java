/** What section 4 of the document's terms says of lines and sums, with promises 25 to 28 and 31. */
final class EdgesOfLines {
    private static final int BAD = OrdersTold.BAD, NOT = OrdersTold.NOT, NONE = OrdersTold.NONE;
    private static final int[] FAR = {Integer.MIN_VALUE, -2, Integer.MAX_VALUE};
    private static final String TWENTY = "1+1+1+1+1+1+1+1+1+1+1+1+1+1+1+1+1+1+1+1";

    private EdgesOfLines() {
    }

    static void all(Sentences d) {
        d.in("4");
        lines(d);
        writer(d);
        sums(d);
        sumWords(d);
        variables(d);
        linePromise(d);
        textPromise(d);
        variablesPromise(d);
        sumPromise(d);
        valuePromise(d);
    }

    /** W 8, K 2, B 12: all fields; i of eight bits; none. */
    private static OrdersTold three() {
        return Checks.told(8, 2, 12, "all:10iiddttiiss:d=s+t:1", "ld:0000iiiiiiii:z=i:1", "n:111111111111:z=0:1");
    }

    private static int line(String text) {
        return Checks.line(three(), text);
    }

    private static void same(Sentences d, String call, String got, String want) {
        d.due(call + " is '" + got + "', due is '" + want + "'", got.equals(want) ? 1 : 0, 1);
    }

    private static void lines(Sentences d) {
        d.says("A LINE: a NAME, then numbers with , between, one for each FIELD that its LOOK has, in the order d, s, t, i");
        d.due("d, s, t, i", line("all 1,2,3,9"), 0b10_10_01_11_01_10);
        d.due("the lowest", line("all 0,0,0,0"), 0b100000000000);
        d.due("the highest", line("all 3,3,3,15"), 0b101111111111);
        d.due("one number", line("ld 255"), 255);
        d.due("none", line("n"), 4095);
        d.due("one too few", line("all 1,2,3"), -29);
        d.due("one too few, but a comma", line("all 1,2,3,"), -30);
        d.due("one too many", line("all 1,2,3,4,5"), -31);
        d.due("one where there is no FIELD", line("n 0"), -22);
        d.due("a comma where there is no FIELD", line("n,"), -21);
        d.due("no number", line("ld"), -22);
        d.due("a comma ahead", line("ld ,1"), -23);
        d.due("no comma between", line("all 1 2,3,4"), -26);
        d.due("two commas between", line("all 1,,2,3,4"), -26);
        d.due("0s ahead are read", line("ld 000255"), 255);
    }

    private static void writer(Sentences d) {
        d.says("THE WRITER tells bits as a LINE: the NAME, a blank if there are FIELDS, the numbers with , between (no 0s ahead)");
        OrdersTold x = three();
        same(d, "all FIELDS", Checks.text(x, 0b10_10_01_11_01_10), "all 1,2,3,9");
        same(d, "no FIELDS", Checks.text(x, 4095), "n");
        int[] numbers = {0, 1, 9, 10, 11, 19, 20, 99, 100, 101, 109, 110, 199, 200, 255};
        for (int n : numbers) {
            same(d, "no 0s ahead", Checks.text(x, n), "ld " + n);
            d.due("and is read again", Checks.line(x, "ld " + n), n);
        }
        OrdersTold longest = Checks.told(8, 1, 12, "abc:0diiiiiiiist:d=i:1");
        same(d, "the longest", Checks.text(longest, 0b0_1_11111111_1_1), "abc 1,1,1,255");
    }

    private static int valueOf(OrdersTold x, String sum) {
        Checks.sum(x, sum);
        return x.value();
    }

    /** W 8, K 3, V 8, REGISTERS 10, 11, .. 17. */
    private static OrdersTold eight() {
        OrdersTold x = Checks.told(8, 3, 8);
        x.variables(8);
        for (int i = 0; i < 8; i++) {
            x.set(0, i, 10 + i);
        }
        return x;
    }

    private static void sums(Sentences d) {
        d.says("A SUM is a TEXT: WORDS with SIGNS + - & | ^ < between");
        OrdersTold x = eight();
        String signs = "+-&|^<";
        int[] due = {254, 146, 0, 254, 254, 0};
        for (int n = 0; n < signs.length(); n++) {
            d.due("200" + signs.charAt(n) + "54", valueOf(x, "200" + signs.charAt(n) + "54"), due[n]);
        }
        d.due("54<200", valueOf(x, "54<200"), 1);
        d.due("like ones", valueOf(x, "54<54"), 0);
        d.due("one WORD", Checks.sum(x, "a"), 1);
        d.due("no WORD", Checks.sum(x, ""), -20);
        d.due("no WORD behind", Checks.sum(x, "a+"), -22);
        d.due("no WORD ahead", Checks.sum(x, "-a"), -20);
        d.due("no SIGN between", Checks.sum(x, "a b"), -22);
        d.due("two SIGNS between", Checks.sum(x, "a+-b"), -22);
        d.due("no SIGN of its", Checks.sum(x, "a*b"), -21);

        d.says("none of which binds more than another: from the left");
        String[] texts = {"9-4-3", "1|2&1", "1+1<1", "2-1<1", "7^1+1", "1<2<3", "1-1&3|8"};
        int[] left = {2, 1, 0, 0, 7, 1, 8};
        for (int n = 0; n < texts.length; n++) {
            d.due(texts[n], valueOf(x, texts[n]), left[n]);
        }
    }

    private static void sumWords(Sentences d) {
        d.says("a WORD: a letter a .. h (a variable: REGISTER 0 .. 7, below V)");
        OrdersTold x = eight();
        for (int i = 0; i < 8; i++) {
            d.due("REGISTER " + i, valueOf(x, String.valueOf((char) ('a' + i))), 10 + i);
        }
        d.due("i is none", Checks.sum(x, "i"), -20);
        d.due("the byte ahead of a is none", Checks.sum(x, "`"), -20);
        d.due("a capital is none", Checks.sum(x, "A"), -20);
        for (int v = 1; v < 8; v++) {
            x.variables(v);
            d.due("the last below " + v, Checks.sum(x, String.valueOf((char) ('a' + v - 1))), 1);
            d.due("not below " + v, Checks.sum(x, String.valueOf((char) ('a' + v))), -20);
        }

        d.says("a number 0 .. 255 (modulo 2^W)");
        for (int w = 2; w <= 8; w++) {
            OrdersTold y = Checks.told(w, 1, 6);
            d.due("255, W " + w, valueOf(y, "255"), (1 << w) - 1);
            d.due("0", valueOf(y, "0"), 0);
            d.due("modulo ahead of <", valueOf(y, (1 << w) % 256 + "<1"), 1);
        }
        d.due("256", Checks.sum(x, "256"), -20);
        d.due("256 behind blanks", Checks.sum(x, "1+  256"), -24);
        d.due("a long one", Checks.sum(x, "4294967296"), -20);
        d.due("longer than a long", Checks.sum(x, "18446744073709551617"), -20);
        d.due("0s ahead are read", valueOf(x, "0000000255"), 255);
        d.due("no blank in it", Checks.sum(x, "1 2"), -22);

        d.says("or a SUM in ( ), 6 deep at most");
        d.due("binds first", valueOf(x, "9-(4-3)"), 8);
        d.due("6 deep", valueOf(x, "9-(9-(9-(9-(9-(9-(8))))))"), 8);
        d.due("7 deep", Checks.sum(x, "9-(9-(9-(9-(9-(9-(9-(8)))))))"), -20 - 20);
        d.due("6 deep at once", Checks.sum(x, "((((((a))))))"), 1);
        d.due("7 deep at once", Checks.sum(x, "(((((((a)))))))"), -26);
        d.due("6 deep, twice", valueOf(x, "((((((4))))))-((((((1))))))"), 3);
        d.due("deep on the left", valueOf(x, "((((((9-1)-1)-1)-1)-1)-1)"), 3);
        d.due("not closed", Checks.sum(x, "(1"), -22);
        d.due("one of six not closed", Checks.sum(x, "((((((1)))))"), -32);
        d.due("not opened", Checks.sum(x, "1)"), -21);
        d.due("closed once more", Checks.sum(x, "(1))"), -23);
        d.due("nothing in it", Checks.sum(x, "()"), -21);
        d.due("no SIGN ahead", Checks.sum(x, "1(2)"), -21);
        d.due("no SIGN behind", Checks.sum(x, "(1)2"), -23);

        d.says("20 letters and numbers at most");
        d.due("20", Checks.sum(x, TWENTY), 20);
        d.due("all count", x.value(), 20);
        d.due("21", Checks.sum(x, TWENTY + "+1"), -20 - 40);
        d.due("20 letters", Checks.sum(x, TWENTY.replace('1', 'a')), 20);
        d.due("21, a letter", Checks.sum(x, TWENTY + "+a"), -20 - 40);
        d.due("a number of three is one", Checks.sum(x, "255+(255+255)"), 3);
    }

    private static void variables(Sentences d) {
        d.says("V (1 .. REGISTERS; 1 at first) REGISTERS are variables, others are free");
        OrdersTold x = new OrdersTold();
        d.due("1 at first", x.count(3), 1);
        d.due("a is one", Checks.sum(x, "a"), 1);
        d.due("b is none", Checks.sum(x, "b"), -20);
        for (int k = 1; k <= 3; k++) {
            OrdersTold y = Checks.told(8, k, 8);
            d.due("all", y.variables(1 << k), 1);
            d.due("one more", y.variables((1 << k) + 1), BAD);
            d.due("none", y.variables(0), BAD);
        }
        x = Checks.told(8, 2, 8, "i:00ddiiii:d=i:1");
        for (int v = 1; v <= 3; v++) {
            x.variables(v);
            Checks.sum(x, "7");
            x.make(0);
            d.due("the first that is free", x.field(x.code(0), 0), v);
        }
        x.variables(4);
        Checks.sum(x, "7");
        d.due("none is free", x.make(0), OrdersTold.FULL);
    }

    private static void linePromise(Sentences d) {
        d.in("promise 25");
        d.says("THE TAPE, which is empty then, is a LINE: its bits");
        OrdersTold x = three();
        d.due("its bits", Checks.line(x, "ld 7"), 7);
        d.due("empty then", x.type('n', 1), 1);
        d.due("bits of the highest", x.line(), 4095);
        d.due("blanks count for nothing", Checks.line(x, "  ld   7  "), 7);
        d.due("but not in a NAME", Checks.line(x, "l d 7"), -20);
        d.due("nor in a number", Checks.line(x, "ld 1 2"), -25);

        d.says("a FAULT: -20 less the place, as above");
        d.due("the end of nothing", x.line(), -20);
        d.due("empty then, too", Checks.line(x, "ld x") + x.type('a', 1), -23 + 1);
        x.line();
        d.due("the end of blanks", Checks.line(x, "   "), -23);
        d.due("the end behind blanks", Checks.line(x, "ld  "), -24);
        d.due("behind all", Checks.line(x, "ld 7 ,"), -25);
        d.due("what is no number", Checks.line(x, "ld -1"), -23);

        d.says("of a NAME that is none, a number beyond its FIELD, its first byte");
        d.due("none", Checks.line(x, "  xy 1"), -22);
        d.due("a part of one", Checks.line(x, "l 1"), -20);
        d.due("more than one", Checks.line(x, "ldx 1"), -20);
        d.due("one that is a NAME's front", Checks.line(x, "al 1"), -20);
        d.due("one that is gone", x.unorder() + Checks.line(x, "n"), 2 - 20);
        d.due("just not beyond", Checks.line(x, "ld 255"), 255);
        d.due("beyond", Checks.line(x, "ld 256"), -23);
        d.due("beyond, behind blanks", Checks.line(x, "ld   256"), -25);
        d.due("a REGISTER beyond", Checks.line(x, "all 4,0,0,0"), -24);
        d.due("the second", Checks.line(x, "all 0,4,0,0"), -26);
        d.due("the third", Checks.line(x, "all 0,0,4,0"), -28);
        d.due("the last", Checks.line(x, "all 0,0,0,16"), -30);
        d.due("beyond, with a fault behind it", Checks.line(x, "all 0,9x"), -26);
        d.due("a long one", Checks.line(x, "ld 4294967296"), -23);
    }

    private static void textPromise(Sentences d) {
        d.in("promise 26");
        OrdersTold x = three();
        d.says("Byte k of the LINE of bits");
        String due = "ld 255";
        for (int k = 0; k < due.length(); k++) {
            d.due("byte " + k, x.text(255, k), due.charAt(k));
        }
        d.says("k = -1: how many");
        d.due("six", x.text(255, -1), 6);
        d.due("the least", x.text(4095, -1), 1);
        d.due("more", x.text(0b101111111111, -1), 12);
        d.says("BAD");
        d.due("behind the last", x.text(255, 6), BAD);
        d.due("behind a single one", x.text(4095, 1), BAD);
        d.due("bits 4096", x.text(4096, -1), BAD);
        d.due("bits -1", x.text(-1, 0), BAD);
        for (int far : FAR) {
            d.due("k " + far, x.text(255, far), BAD);
            d.due("bits " + far, x.text(far, 0), BAD);
        }
        d.due("ahead of NONE", x.text(256, -2), BAD);
        d.says("NONE: a HOLE");
        d.due("how many", x.text(256, -1), NONE);
        d.due("a byte", x.text(256, 0), NONE);
        x.unorder();
        d.due("what is a HOLE again", x.text(4095, 0), NONE);
    }

    private static void variablesPromise(Sentences d) {
        d.in("promise 27");
        OrdersTold x = new OrdersTold();
        d.says("V: what it was");
        d.due("1 at first", x.variables(4), 1);
        d.due("4", x.variables(1), 4);
        d.due("1", x.variables(1), 1);
        d.says("no SUM is read then");
        Checks.sum(x, "7");
        d.due("one is", x.value(), 7);
        x.variables(2);
        d.due("none is", x.value(), NOT);
        d.due("no PRICE", x.price(), NOT);
        d.due("no CODE", x.make(0), NOT);
        Checks.sum(x, "7");
        x.variables(2);
        d.due("none, also if V is what it was", x.value(), NOT);
        d.says("BAD");
        Checks.sum(x, "7");
        d.due("0", x.variables(0), BAD);
        d.due("5", x.variables(5), BAD);
        d.due("-1", x.variables(-1), BAD);
        for (int far : FAR) {
            d.due("far", x.variables(far), BAD);
        }
        d.due("V is as it was", x.count(3), 2);
        d.due("THE SUM, too", x.value(), 7);
    }

    private static void sumPromise(Sentences d) {
        d.in("promise 28");
        OrdersTold x = new OrdersTold();
        x.variables(2);
        d.says("THE TAPE, which is empty then, is THE SUM: how many letters and numbers");
        d.due("one", Checks.sum(x, "a"), 1);
        d.due("empty then", x.type('b', 1), 1);
        d.due("the next is read", x.sum(), 1);
        d.due("four", Checks.sum(x, " ( a + 12 ) < ( b ^ 255 ) "), 4);
        d.due("20", Checks.sum(x, TWENTY), 20);
        d.says("a FAULT as above");
        d.due("no SUM", Checks.sum(x, "a+ *"), -23);
        d.due("empty then, too", x.type('b', 1), 1);
        d.due("the next is read", x.sum(), 1);
        d.due("the end of nothing", x.sum(), -20);
        d.due("the end of blanks", Checks.sum(x, "   "), -23);
        d.due("a number beyond, its first byte", Checks.sum(x, " 300*"), -21);
        d.due("THE SUM is as it was", x.value(), 0);
        d.says("(the 21st's first byte");
        d.due("a number", Checks.sum(x, TWENTY + "+255"), -60);
        d.due("one that is beyond", Checks.sum(x, TWENTY + "+256"), -60);
        d.due("behind blanks", Checks.sum(x, TWENTY + "+   a"), -63);
        d.due("in ( )", Checks.sum(x, TWENTY + "+(1)"), -61);
        d.due("the end ahead of it", Checks.sum(x, TWENTY + "+"), -60);
        d.says("a seventh ( , can't");
        d.due("the seventh", Checks.sum(x, "(((((((1"), -26);
        d.due("behind blanks", Checks.sum(x, "((((((  (1"), -28);
        d.due("the seventh of those open", Checks.sum(x, "((((((1)+(1)))))+(1))"), 3);
        d.due("of those open, later", Checks.sum(x, "((((((1)+((1"), -30);
        d.says("of a letter not below V, too)");
        d.due("c", Checks.sum(x, "a+ c"), -23);
        d.due("h", Checks.sum(x, "h"), -20);
        d.due("z", Checks.sum(x, "z"), -20);
    }

    private static void valuePromise(Sentences d) {
        d.in("promise 31");
        OrdersTold x = new OrdersTold();
        x.variables(4);
        d.says("What THE SUM is with the REGISTERS as they are");
        Checks.sum(x, "d-a");
        d.due("0", x.value(), 0);
        x.set(0, 3, 255);
        d.due("255", x.value(), 255);
        x.set(0, 0, 255);
        d.due("0 again", x.value(), 0);
        x.set(0, 3, 254);
        d.due("round", x.value(), 255);
        d.says("NOT");
        d.due("none is read", new OrdersTold().value(), NOT);
        x.begin(8, 2, 8);
        d.due("none since begin()", x.value(), NOT);
        Checks.sum(x, "+");
        d.due("a FAULT is none", x.value(), NOT);
    }
}
