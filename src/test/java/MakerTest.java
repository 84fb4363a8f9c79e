/** Promises 25 to 31: lines read and written, sums, their price, their code, their value. */
public final class MakerTest {
    private static final int BAD = OrdersTold.BAD, NOT = OrdersTold.NOT, FULL = OrdersTold.FULL, NONE = OrdersTold.NONE;
    private static final int[] FAR = {Integer.MIN_VALUE, Integer.MAX_VALUE};

    public static void main(String[] args) {
        Checks c = new Checks("maker");
        lines(c);
        texts(c);
        undoEachOther(c);
        variables(c);
        sums(c);
        sumFaults(c);
        values(c);
        pricesOfForms(c);
        leastOrders(c);
        notForms(c);
        codes(c);
        codeDoesTheSum(c);
        full(c);
        c.end();
    }

    private static void lines(Checks c) {
        OrdersTold x = Checks.ten();
        String[] good = {"add 1,2,3", "add1,2,3", "  add  1 , 2 ,3  ", "add 001,02,3", "ldi 3,0", "jz 7", "inc 0,15", "cmp 3,3"};
        int[] bits = {27, 27, 27, 27, 0x58, 0xE7, 0x8F, 0xFF};
        for (int i = 0; i < good.length; i++) {
            c.due("25: " + good[i], Checks.line(x, good[i]), bits[i]);
        }
        String[] wrong = {"", "  ", "1", "x", "ADD", "nop 1", " nop", "addx 1", "a dd 1", "add", "add ", "add ,", "add x", "add 4,0,0",
            "add 1", "add 1,", "add 1 1", "add 1,2,3,", "add 1,2,3 4", "add 1,9,3", "add 1,,3", "add -1", "jz 8", "jz 008",
            "jz 99999999999", "ldi 0,8", "ldi 0:7", "ldi 0,7 x"};
        int[] places = {0, 2, 0, 0, 0, 0, 1, 3, 0, 3, 4, 4, 4, 4,
            5, 6, 6, 9, 10, 6, 6, 4, 3, 3,
            3, 6, 5, 8};
        c.due("25: as many places as texts", wrong.length, places.length);
        for (int i = 0; i < Math.min(wrong.length, places.length); i++) {
            c.due("25: fault of '" + wrong[i] + "'", Checks.line(x, wrong[i]), -20 - places[i]);
            c.due("25: the tape is empty then", x.type('a', 1), 1);
            x.line();
        }
        x = new OrdersTold();
        Checks.order(x, "hlt:11111111:z=0:1");
        c.due("25: no fields", Checks.line(x, "hlt"), 255);
        c.due("25: no number then", Checks.line(x, "hlt 0"), -24);
    }

    private static void texts(Checks c) {
        OrdersTold x = Checks.ten();
        int[] bits = {27, 0x5F, 0xE5, 0x8F};
        String[] lines = {"add 1,2,3", "ldi 3,7", "jz 5", "inc 0,15"};
        for (int i = 0; i < bits.length; i++) {
            c.due("26: how many of " + lines[i], x.text(bits[i], -1), lines[i].length());
            for (int k = 0; k < lines[i].length(); k++) {
                c.due("26: byte " + k + " of " + lines[i], x.text(bits[i], k), lines[i].charAt(k));
            }
            c.due("26: behind its end", x.text(bits[i], lines[i].length()), BAD);
        }
        c.due("26: k -2", x.text(27, -2), BAD);
        c.due("26: no bits", x.text(256, 0), BAD);
        c.due("26: no bits below", x.text(-1, 0), BAD);
        for (int far : FAR) {
            c.due("26: far k", x.text(27, far), BAD);
            c.due("26: far bits", x.text(far, 0), BAD);
        }
        x.begin(8, 3, 12);
        c.due("26: a hole", x.text(0, 0), NONE);
        c.due("26: how many of a hole", x.text(0, -1), NONE);
        c.due("26: BAD ahead of NONE", x.text(0, -2), BAD);
        Checks.order(x, "h:000000000000:z=0:1");
        c.due("26: no blank without fields", x.text(0, -1), 1);
        c.due("26: just the name", x.text(0, 0), 'h');
        Checks.order(x, "abc:0001iiiiiiii:z=i:1");
        c.due("26: three digits", x.text(0x1FF, -1), 7);
        c.due("26: 200", Checks.text(x, 0x1C8).equals("abc 200") ? 1 : 0, 1);
        c.due("26: 109", Checks.text(x, 0x16D).equals("abc 109") ? 1 : 0, 1);
        c.due("26: 100", Checks.text(x, 0x164).equals("abc 100") ? 1 : 0, 1);
        c.due("26: 10", Checks.text(x, 0x10A).equals("abc 10") ? 1 : 0, 1);
        c.due("26: a 0 alone", x.text(0x100, -1), 5);
    }

    private static void undoEachOther(Checks c) {
        OrdersTold x = Checks.ten();
        for (int bits = 0; bits < 256; bits += 9) {
            c.due("25, 26: there and back", Checks.line(x, Checks.text(x, bits)), bits);
        }
        x = new OrdersTold();
        x.begin(6, 2, 12);
        Checks.order(x, "mix:i1did0isi0si:d=s+i:1");
        c.due("25, 26: fields in pieces", Checks.line(x, "mix 2,1,21"), 0xE23);
        c.due("26: told back", Checks.text(x, 0xE23).equals("mix 2,1,21") ? 1 : 0, 1);
    }

    private static void variables(Checks c) {
        OrdersTold x = Checks.ten();
        c.due("27: 1 at first", x.variables(4), 1);
        Checks.sum(x, "d");
        c.due("27: beyond", x.variables(5), BAD);
        c.due("27: none", x.variables(0), BAD);
        for (int far : FAR) {
            c.due("27: far", x.variables(far), BAD);
        }
        c.due("27: refused, the sum stays", x.value(), 0);
        c.due("27: what it was", x.variables(4), 4);
        c.due("27: no sum is read then", x.value(), NOT);
        c.due("27: the least", x.variables(1), 4);
        c.due("12: and it is so", x.count(3), 1);
        x.begin(8, 3, 8);
        c.due("27: eight", x.variables(8), 1);
        c.due("28: h", Checks.sum(x, "h"), 1);
    }

    private static void sums(Checks c) {
        OrdersTold x = Checks.ten();
        x.variables(3);
        c.due("28: one", Checks.sum(x, "a"), 1);
        c.due("28: a number of three", Checks.sum(x, " 255 "), 1);
        c.due("28: blanks", Checks.sum(x, " ( a + 12 ) < ( b ^ c ) "), 4);
        c.due("28: six deep", Checks.sum(x, "((((((a+b)+c)))))"), 3);
        c.due("28: six deep twice", Checks.sum(x, "((((((a))))))|((((((7))))))"), 2);
        c.due("28: 20", Checks.sum(x, "1+1+1+1+1+1+1+1+1+1+1+1+1+1+1+1+1+1+1+1"), 20);
        c.due("31: and all count", x.value(), 20);
        c.due("28: 0s ahead", Checks.sum(x, "0000255"), 1);
        c.due("28: 0", Checks.sum(x, "0-0"), 2);
        c.due("31: 0", x.value(), 0);
    }

    private static void sumFaults(Checks c) {
        OrdersTold x = Checks.ten();
        x.variables(2);
        Checks.sum(x, "a+b+5");
        String[] wrong = {"", "  ", "c", "A", "i", "+a", "a+", "a+ ", "a b", "a 1", "1 2", "ab", "(a", "(a+b", "a)", "()", "(a))", "256", "a+ 256",
            "a+300x", "a+c", "a++b", "(((((((a", "((((((a)+(b", "((((((a)))))))", "1+1+1+1+1+1+1+1+1+1+1+1+1+1+1+1+1+1+1+1+ 1",
            "1+1+1+1+1+1+1+1+1+1+1+1+1+1+1+1+1+1+1+1+999", "a*b", "a=b", "99999999999999999999"};
        int[] places = {0, 2, 0, 0, 0, 0, 2, 3, 2, 2, 2, 1, 2, 4, 1, 1, 3, 0, 3,
            2, 2, 2, 6, 11, 13, 41,
            40, 1, 1, 0};
        c.due("28: as many places as texts", wrong.length, places.length);
        for (int i = 0; i < Math.min(wrong.length, places.length); i++) {
            c.due("28: fault of '" + wrong[i] + "'", Checks.sum(x, wrong[i]), -20 - places[i]);
        }
        c.due("28: the tape is empty then", x.type('a', 1), 1);
        c.due("28: what is refused leaves the sum", x.value(), 5);
    }

    private static void values(Checks c) {
        OrdersTold x = Checks.ten();
        c.due("31: none is read", x.value(), NOT);
        x.variables(4);
        x.set(0, 0, 10);
        x.set(0, 1, 20);
        x.set(0, 2, 3);
        x.set(0, 3, 250);
        String[] texts = {"a", "d", "255", "a+b", "a-b", "a-b-c", "a-(b-c)", "a+d", "a&b|c", "a|(b&c)", "a^b", "a<b", "b<a", "a<a", "a<b<c",
            "a+b<31", "a+(b<31)", "((a))"};
        int[] due = {10, 250, 255, 30, 246, 243, 249, 4, 3, 10, 30, 1, 0, 0, 1, 1, 11, 10};
        for (int i = 0; i < texts.length; i++) {
            Checks.sum(x, texts[i]);
            c.due("31: " + texts[i], x.value(), due[i]);
        }
        x.set(0, 0, 11);
        c.due("31: registers as they are", x.value(), 11);
        x.begin(3, 2, 8);
        c.due("31: none since begin", x.value(), NOT);
        Checks.sum(x, "255");
        c.due("31: a number modulo 2^W", x.value(), 7);
        Checks.sum(x, "8<1");
        c.due("31: and so held against another", x.value(), 1);
    }

    /** An object with W 8, K 2, B 12, V 2 and orders told by what they do, ticks behind a colon; i has two bits. */
    private static OrdersTold with(String... orders) {
        OrdersTold x = new OrdersTold();
        x.begin(8, 2, 12);
        x.variables(2);
        for (int n = 0; n < orders.length; n++) {
            String does = orders[n].substring(0, orders[n].indexOf(':'));
            StringBuilder look = new StringBuilder(Integer.toBinaryString(16 + n).substring(1));
            for (char f : "dsti".toCharArray()) {
                look.append(does.indexOf(f) >= 0 ? String.valueOf(f) + f : "");
            }
            look.append("0".repeat(12 - look.length()));
            Checks.order(x, (char) ('a' + n) + ":" + look + ":" + orders[n]);
        }
        return x;
    }

    private static int priceOf(OrdersTold x, String sum) {
        Checks.sum(x, sum);
        return x.price();
    }

    private static void pricesOfForms(Checks c) {
        OrdersTold x = with("d=s:2", "d=i:3", "d=s+t:5");
        c.due("29: none is read", x.price(), NOT);
        c.due("29: a variable", priceOf(x, "a"), 2);
        c.due("29: a number", priceOf(x, "3"), 3);
        c.due("29: i has no room", priceOf(x, "4"), NONE);
        c.due("29: a number modulo 2^W has", priceOf(x, "255+(1+(2+a))"), NONE);
        c.due("29: three", priceOf(x, "a+b"), 5);
        c.due("29: three of numbers", priceOf(x, "1+2"), 11);
        c.due("29: another sign", priceOf(x, "a-b"), NONE);
        c.due("29: two signs", priceOf(x, "a+1+(b+2)"), 5 + 8 + 8);
        x = with("d=s:2", "d=s-i:4");
        c.due("29: with", priceOf(x, "a-3"), 4);
        c.due("29: with, in ( )", priceOf(x, "a-(3)"), 4);
        c.due("29: with, no room", priceOf(x, "a-4"), NONE);
        c.due("29: with, twice", priceOf(x, "a-3-2"), 8);
        c.due("29: with, a variable", priceOf(x, "a-b"), NONE);
        c.due("29: with, a number left", priceOf(x, "3-3"), NONE);
        x = with("d=s:2", "d=d-s:4", "d=i:1");
        c.due("29: onto a variable", priceOf(x, "a-b"), 6);
        c.due("29: onto a number", priceOf(x, "3-b"), 5);
        c.due("29: onto a sum", priceOf(x, "a-b-b"), 10);
        x = with("d=d-s:4", "d=i:1");
        c.due("29: onto, no move", priceOf(x, "a-b"), NONE);
        c.due("29: onto a number, no move", priceOf(x, "3-b"), 5);
        c.due("29: a variable, no move", priceOf(x, "a"), NONE);
        x = with("d=s:9", "d=d^i:1");
        c.due("29: upon a variable", priceOf(x, "b^2"), 10);
        c.due("29: upon a sum", priceOf(x, "b^2^3"), 11);
        c.due("29: upon, no room", priceOf(x, "b^7"), NONE);
        x = new OrdersTold();
        x.begin(2, 1, 8);
        Checks.order(x, "a:000000di:d=i:4");
        c.due("29: 5 is 1 of two bits", priceOf(x, "5"), 4);
        c.due("29: 6 is 2", priceOf(x, "6"), NONE);
        x.unorder();
        c.due("29: orders as they are", priceOf(x, "5"), NONE);
    }

    private static void leastOrders(Checks c) {
        OrdersTold x = with("d=s:3", "d=s:2", "d=s:2", "d=i:4", "d=i:1", "d=i:1", "d=d+s:4", "d=s+t:6", "d=d+i:4", "d=s+i:6");
        Checks.sum(x, "b");
        c.due("29: the least move", x.price(), 2);
        x.make(0);
        c.due("30: of like ones the least", x.look(x.code(0)), 1);
        Checks.sum(x, "2");
        x.make(0);
        c.due("30: the least load", x.look(x.code(0)), 4);
        Checks.sum(x, "a+b");
        c.due("29: like prices", x.price(), 6);
        x.make(0);
        c.due("30: the least order has a move ahead", x.look(x.code(0)), 1);
        c.due("30: and is this", x.look(x.code(1)), 6);
        Checks.sum(x, "a+2");
        c.due("29: upon and with alike", x.price(), 6);
        x.make(0);
        c.due("30: the least is upon", x.look(x.code(1)), 8);
        Checks.sum(x, "1+2");
        c.due("29: a load less", x.price(), 5);
        x.make(0);
        c.due("30: load", x.look(x.code(0)), 4);
        c.due("30: upon it", x.look(x.code(1)), 8);
    }

    private static void notForms(Checks c) {
        String[] does = {"d=t", "s=d", "?z,d=s", "d=s,z=0", "[d]=s", "z=s", "d=s+s", "d=t+s", "d=i+s", "d=s+d", "d=i+d", "d=s+1", "d=t+i", "d=d+1",
            "d=d+d", "d=d", "d=d+z", "d=d+[i]", "d=[s]+i"};
        for (String one : does) {
            OrdersTold x = with("d=i:1", one + ":1");
            c.due("29: no move by " + one, priceOf(x, "a"), NONE);
            x = with("d=i:1", "d=s:1", one + ":1");
            c.due("29: no sum by " + one, priceOf(x, "a+b"), NONE);
            c.due("29: nor with a number", priceOf(x, "a+1"), NONE);
        }
        OrdersTold x = new OrdersTold();
        x.begin(8, 1, 10);
        Checks.order(x, "a:000000dsit:d=s:1");
        Checks.order(x, "b:100000dsit:d=i:1");
        Checks.order(x, "c:110000dsit:d=s+t:1");
        Checks.order(x, "e:111000dsit:d=d+i:1");
        c.due("29: a field that is not named, move", priceOf(x, "a"), NONE);
        c.due("29: load", priceOf(x, "1"), NONE);
        c.due("29: three", priceOf(x, "a+a"), NONE);
        c.due("29: upon", priceOf(x, "a+1"), NONE);
    }

    private static String made(OrdersTold x, String sum, int place) {
        Checks.sum(x, sum);
        int n = x.make(place);
        StringBuilder lines = new StringBuilder(n < 0 ? String.valueOf(n) : "");
        for (int i = 0; i < n; i++) {
            lines.append(i > 0 ? "; " : "").append(Checks.text(x, x.code(place + i)));
        }
        return lines.toString();
    }

    private static void codes(Checks c) {
        OrdersTold x = with("d=s:1", "d=i:1", "d=s+t:1", "d=s-i:1", "d=d&s:1", "d=d|i:1");
        c.due("30: none is read", x.make(0), NOT);
        c.due("30: BAD ahead of NOT", x.make(64), BAD);
        String[] sums = {"b", "3", "a+b", "b+3", "3+b", "1+2", "a-3", "1-3", "a&b", "3&b", "a&3", "1&2", "a|3", "2|3",
            "(a+b)+(b+a)", "a+(b+a)", "(a+b)-1", "a&(b&a)", "a+(1&2)", "(b-2)&(a+1)", "((b))"};
        String[] due = {"a 2,1", "b 2,3", "c 2,0,1", "b 2,3; c 2,1,2", "b 2,3; c 2,2,1", "b 2,1; b 3,2; c 2,2,3", "d 2,0,3",
            "b 2,1; d 2,2,3", "a 2,0; e 2,1", "b 2,3; e 2,1", "a 2,0; b 3,3; e 2,3", "b 2,1; b 3,2; e 2,3", "a 2,0; f 2,3", "b 2,2; f 2,3",
            "c 2,0,1; c 3,1,0; c 2,2,3", "c 2,1,0; c 2,0,2", "c 2,0,1; d 2,2,1", "a 2,0; a 3,1; e 3,0; e 2,3", "b 2,1; b 3,2; e 2,3; c 2,0,2",
            "d 2,1,2; b 3,1; c 3,0,3; e 2,3", "a 2,1"};
        for (int i = 0; i < sums.length; i++) {
            String lines = made(x, sums[i], i);
            c.due("30: " + sums[i] + " is made as " + lines + ", due is " + due[i], lines.equals(due[i]) ? 1 : 0, 1);
        }
        c.due("30: can't be covered", Checks.sum(x, "a^b") + x.make(0), 2 + NONE);
        c.due("30: no place", x.make(-1), BAD);
        c.due("30: no place above", x.make(64), BAD);
        for (int far : FAR) {
            c.due("30: far", x.make(far), BAD);
        }
    }

    private static void codeDoesTheSum(Checks c) {
        String[] signs = {"+", "-", "&", "|", "^", "<"};
        Dice dice = new Dice(3);
        for (int turn = 0; turn < 40; turn++) {
            OrdersTold x = new OrdersTold();
            x.begin(8, 3, 12);
            Checks.order(x, "mov:000000dddsss:d=s:" + dice.between(1, 3));
            Checks.order(x, "ldi:01ddd0iiiiii:d=i:" + dice.between(1, 3));
            for (int n = 0; n < 6; n++) {
                Checks.order(x, (char) ('a' + n) + ":000" + Integer.toBinaryString(9 + n).substring(1)
                        + "dddsss:d=d" + signs[n] + "s:" + dice.between(1, 3));
            }
            Checks.order(x, "p:001dddsssttt:d=s+t:1");
            x.variables(3);
            for (int i = 0; i < 3; i++) {
                x.set(0, i, dice.below(256));
            }
            StringBuilder text = new StringBuilder();
            for (int i = 0; i < 5; i++) {
                text.append(i > 0 ? String.valueOf(dice.of("+-&|^<")) : "");
                text.append(dice.oneIn(2) ? String.valueOf(dice.of("abc")) : dice.oneIn(2) ? String.valueOf(dice.below(64)) : "(a-(5^b))");
            }
            Checks.sum(x, text.toString());
            int n = x.make(0);
            int value = x.value();
            c.due("30: steps of " + text, x.run(n), n);
            c.due("30: V is " + text, x.get(0, 3), value);
        }
    }

    private static void full(Checks c) {
        OrdersTold x = with("d=s:1", "d=i:1", "d=d+s:1");
        Checks.sum(x, "1+2");
        c.due("30: just the places", x.make(61), 3);
        c.due("30: a place too few", x.make(62), FULL);
        c.due("30: nothing is put", x.code(62) == x.code(61) ? 1 : 0, 0);
        int was = x.code(62);
        x.put(63, 5);
        x.make(62);
        c.due("30: nothing is put at 62", x.code(62), was);
        c.due("30: nothing is put at 63", x.code(63), 5);
        c.due("30: a register too few", Checks.sum(x, "1+(2+(3+a))") + x.make(0), 4 + FULL);
        c.due("30: nothing is put at 0", x.code(0), 0);
        c.due("30: just the registers", Checks.sum(x, "1+(2+a)") + x.make(0), 3 + 4);
        x.variables(4);
        c.due("30: no free register", Checks.sum(x, "a") + x.make(0), 1 + FULL);
        c.due("29: but a price", x.price(), 1);
        c.due("30: NONE ahead of FULL", Checks.sum(x, "a-a") + x.make(63), 2 + NONE);
    }
}
