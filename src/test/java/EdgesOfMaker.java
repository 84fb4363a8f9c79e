/** What section 4 of the document's terms says of the maker, with promises 29 and 30. */
final class EdgesOfMaker {
    private static final int BAD = OrdersTold.BAD, NOT = OrdersTold.NOT, FULL = OrdersTold.FULL, NONE = OrdersTold.NONE;
    private static final int[] FAR = {Integer.MIN_VALUE, -1, Integer.MAX_VALUE};

    private static final String TWENTY = "1+1+1+1+1+1+1+1+1+1+1+1+1+1+1+1+1+1+1+1";

    private EdgesOfMaker() {
    }

    static void all(Sentences d) {
        d.in("4");
        whichOrders(d);
        forms(d);
        prices(d);
        leastOnes(d);
        codeOfSides(d);
        codeOfOrder(d);
        pricePromise(d);
        makePromise(d);
    }

    /** W 8, K 2, B 12, V 2; orders a, b, c, .. by what they do and their ticks, i of two bits, fields as they are named. */
    private static OrdersTold with(String... orders) {
        String[] texts = new String[orders.length];
        for (int n = 0; n < orders.length; n++) {
            String does = orders[n].substring(0, orders[n].indexOf(':'));
            StringBuilder look = new StringBuilder(Integer.toBinaryString(16 + n).substring(1));
            for (String f : "d s t i".split(" ")) {
                look.append(does.contains(f) ? f + f : "");
            }
            look.append("0".repeat(12 - look.length()));
            texts[n] = (char) ('a' + n) + ":" + look + ":" + orders[n];
        }
        OrdersTold x = Checks.told(8, 2, 12, texts);
        x.variables(2);
        return x;
    }

    private static int price(OrdersTold x, String sum) {
        Checks.sum(x, sum);
        return x.price();
    }

    /** The code of a sum as lines, or the refusal. */
    private static String made(OrdersTold x, String sum) {
        Checks.sum(x, sum);
        int n = x.make(0);
        StringBuilder lines = new StringBuilder(n < 0 ? String.valueOf(n) : "");
        for (int i = 0; i < n; i++) {
            lines.append(i > 0 ? "; " : "").append(Checks.text(x, x.code(i)));
        }
        return lines.toString();
    }

    private static void isMade(Sentences d, OrdersTold x, String sum, String due) {
        String lines = made(x, sum);
        d.due(sum + " is made as '" + lines + "', due is '" + due + "'", lines.equals(due) ? 1 : 0, 1);
    }

    private static void whichOrders(Sentences d) {
        d.says("THE MAKER covers a SUM by ORDERS without GUARD");
        d.due("?", price(with("?z,d=i:1"), "1"), NONE);
        d.due("?!", price(with("?!z,d=s:1"), "a"), NONE);
        d.due("? of an ORDER ahead", price(with("?d,d=i:1", "d=i:5"), "1"), 5);

        d.says("of one ACT");
        d.due("two", price(with("d=i,z=0:1"), "1"), NONE);
        d.due("three", price(with("d=s,d=s,d=s:1"), "a"), NONE);
        d.due("two that do the same", price(with("d=d,d=i:1", "d=i:5"), "1"), 5);

        d.says("of these forms (LOOK with just the FIELDS that it names)");
        OrdersTold x = Checks.told(8, 1, 8, "a:0000dsti:d=i:1", "b:0001dsti:d=s:1", "c:0010dsti:d=s+t:1", "e:0011dsti:d=s+i:1",
                "f:0100dsti:d=d+s:1", "g:0101dsti:d=d+i:1");
        String[] sums = {"1", "a", "a+a", "a+1", "1+1"};
        for (String sum : sums) {
            d.due("a FIELD more, " + sum, price(x, sum), NONE);
        }
        d.due("s more", price(Checks.told(8, 1, 8, "a:00000dsi:d=i:1"), "1"), NONE);
        d.due("t more", price(Checks.told(8, 1, 8, "a:00000dst:d=s:1"), "a"), NONE);
        d.due("none more", price(Checks.told(8, 1, 8, "a:000000di:d=i:1"), "1"), 1);
    }

    private static void forms(Sentences d) {
        d.says("LOAD d=i");
        d.due("it is one", price(with("d=i:7"), "1"), 7);
        String[] noLoad = {"s=i:7", "d=[i]:7", "[d]=i:7", "z=i:7", "d=i+0:7", "d=0:7", "d=1:7"};
        for (String one : noLoad) {
            d.due(one, price(with(one), "1"), NONE);
        }

        d.says("MOVE d=s");
        d.due("it is one", price(with("d=s:7"), "a"), 7);
        String[] noMove = {"s=d:7", "d=t:7", "d=[s]:7", "[d]=s:7", "d=d:7", "d=s+0:7", "t=s:7"};
        for (String one : noMove) {
            d.due(one, price(with(one), "a"), NONE);
        }

        d.says("THREE d=s SIGN t");
        String[] signs = {"+", "-", "&", "|", "^", "<"};
        for (String sign : signs) {
            for (String other : signs) {
                d.due("for " + other + " by " + sign, price(with("d=s" + sign + "t:3"), "a" + other + "b"), sign.equals(other) ? 3 : NONE);
            }
        }
        String[] noThree = {"d=t+s:3", "d=s+s:3", "d=t+t:3", "t=s+d:3", "d=s+[t]:3", "d=[s]+t:3", "[d]=s+t:3", "z=s+t:3"};
        for (String one : noThree) {
            d.due(one, price(with(one), "a+b"), NONE);
        }

        d.says("WITH d=s SIGN i");
        d.due("it is one", price(with("d=s-i:3"), "a-1"), 3);
        String[] noWith = {"d=i-s:3", "d=s-1:3", "d=t-i:3", "d=s-[i]:3", "s=d-i:3"};
        for (String one : noWith) {
            d.due(one, price(with(one, "d=s:1", "d=i:1"), "a-1"), NONE);
        }

        d.says("ONTO d=d SIGN s");
        d.due("it is one", price(with("d=d-s:3", "d=s:1"), "a-b"), 4);
        String[] noOnto = {"d=s-d:3", "d=d-t:3", "s=s-d:3", "d=d-[s]:3", "d=d-d:3", "d=z-s:3", "d=7-s:3"};
        for (String one : noOnto) {
            d.due(one, price(with(one, "d=s:1"), "a-b"), NONE);
        }

        d.says("UPON d=d SIGN i");
        d.due("it is one", price(with("d=d-i:3", "d=s:1"), "a-1"), 4);
        String[] noUpon = {"d=i-d:3", "d=d-1:3", "s=s-i:3", "d=d-[i]:3", "d=z-i:3", "d=7-i:3"};
        for (String one : noUpon) {
            d.due(one, price(with(one, "d=s:1", "d=i:1"), "a-1"), NONE);
        }
    }

    private static void prices(Sentences d) {
        d.says("PRICE of a variable is 0");
        d.due("both sides", price(with("d=s+t:5"), "a+b"), 5);
        d.due("one side", price(with("d=s+t:5", "d=i:3"), "a+1"), 8);

        d.says("of a number the least TICKS of a LOAD whose i has room for it");
        d.due("the least", price(with("d=i:4", "d=i:2", "d=i:3"), "3"), 2);
        d.due("the highest that has room", price(with("d=i:4"), "3"), 4);
        d.due("no room", price(with("d=i:4"), "4"), NONE);
        OrdersTold wide = Checks.told(8, 1, 12, "a:0000000000di:d=i:1", "b:001diiiiiiii:d=i:9");
        d.due("one bit has room for 1", price(wide, "1"), 1);
        d.due("one bit has none for 2", price(wide, "2"), 9);
        d.due("eight bits have room for 255", price(wide, "255"), 9);
        d.due("modulo 2^W it has room", price(Checks.told(2, 1, 8, "a:000000di:d=i:1"), "253"), 1);
        d.due("modulo 2^W it has none", price(Checks.told(2, 1, 8, "a:000000di:d=i:1"), "254"), NONE);

        d.says("of a SIGN the least of its ORDERS");
        d.due("the last", price(with("d=s+t:9", "d=s+t:8", "d=s+t:7"), "a+b"), 7);
        d.due("the first", price(with("d=s+t:7", "d=s+t:8", "d=s+t:9"), "a+b"), 7);
        d.due("another kind", price(with("d=s:1", "d=s+t:9", "d=d+s:7"), "a+b"), 8);

        d.says("THREE: PRICES of both sides and its TICKS");
        d.due("1+2", price(with("d=s+t:5", "d=i:3"), "1+2"), 11);
        d.due("deeper", price(with("d=s+t:5", "d=i:3"), "(a+1)+(2+b)"), 8 + 8 + 5);
        d.due("a side without", price(with("d=s+t:5", "d=i:3"), "a+(b-1)"), NONE);

        d.says("WITH, if the right side is a number for which i has room: PRICE of the left side and its TICKS");
        d.due("no LOAD for it", price(with("d=s+i:5"), "a+3"), 5);
        d.due("the highest for which there is room", price(with("d=s+i:5", "d=s+t:9"), "a+3"), 5);
        d.due("no room", price(with("d=s+i:5"), "a+4"), NONE);
        d.due("the left side is no variable", price(with("d=s+i:5", "d=i:3"), "2+3"), 8);
        d.due("the right side is no number", price(with("d=s+i:5", "d=i:3"), "a+(1+2)"), NONE);
        d.due("nor a variable", price(with("d=s+i:5", "d=i:3"), "1+a"), NONE);

        d.says("ONTO, UPON: as THREE, WITH, and, if the left side is a variable, the least TICKS of a MOVE");
        d.due("ONTO a variable", price(with("d=d+s:5", "d=s:9", "d=s:2"), "a+b"), 7);
        d.due("ONTO a number", price(with("d=d+s:5", "d=s:9", "d=i:1"), "1+b"), 6);
        d.due("ONTO both numbers", price(with("d=d+s:5", "d=s:9", "d=i:1"), "1+2"), 7);
        d.due("ONTO a SIGN", price(with("d=d+s:5", "d=s:2"), "a+b+b"), 12);
        d.due("ONTO a variable, no MOVE", price(with("d=d+s:5", "d=i:1"), "a+b"), NONE);
        d.due("UPON a variable", price(with("d=d+i:5", "d=s:9", "d=s:2"), "a+3"), 7);
        d.due("UPON a number", price(with("d=d+i:5", "d=i:1"), "1+3"), 6);
        d.due("UPON, no room", price(with("d=d+i:5", "d=s:2"), "a+4"), NONE);
        d.due("UPON a SIGN", price(with("d=d+i:5", "d=s:2"), "a+3+3"), 12);
        d.due("UPON a variable, no MOVE", price(with("d=d+i:5", "d=i:1"), "a+3"), NONE);
    }

    private static void leastOnes(Sentences d) {
        d.says("Of like PRICES the least ORDER (of LOADS, MOVES, too)");
        isMade(d, with("d=i:2", "d=i:1", "d=i:1"), "3", "b 2,3");
        isMade(d, with("d=s:2", "d=s:1", "d=s:1"), "b", "b 2,1");
        isMade(d, with("d=s+t:2", "d=s+t:1", "d=s+t:1"), "a+b", "b 2,0,1");
        isMade(d, with("d=s:1", "d=d+s:2", "d=s+t:3"), "a+b", "a 2,0; b 2,1");
        isMade(d, with("d=s:1", "d=s+t:3", "d=d+s:2"), "a+b", "b 2,0,1");
        isMade(d, with("d=i:1", "d=s+t:2", "d=s+i:3"), "a+3", "a 2,3; b 2,0,2");
        isMade(d, with("d=i:1", "d=s+i:3", "d=s+t:2"), "a+3", "b 2,0,3");

        d.says("A SUM that is but a variable: the least MOVE");
        OrdersTold x = with("d=s:5", "d=s:4", "d=s:4");
        d.due("its TICKS", price(x, "b"), 4);
        isMade(d, x, "b", "b 2,1");
        d.due("in ( )", price(x, "((b))"), 4);

        d.says("(There may be none.)");
        d.due("no MOVE", price(with("d=i:1"), "a"), NONE);
        d.due("no LOAD", price(with("d=s:1"), "1"), NONE);
        d.due("no ORDER for a SIGN", price(with("d=s:1", "d=i:1"), "a+1"), NONE);
        d.due("no ORDERS", price(new OrdersTold(), "a"), NONE);
    }

    private static OrdersTold six() {
        return with("d=s:1", "d=i:1", "d=s+t:1", "d=s-i:1", "d=d&s:1", "d=d|i:1");
    }

    private static void codeOfSides(Sentences d) {
        OrdersTold x = six();
        d.says("CODE, into REGISTER x, at first V");
        for (int v = 1; v <= 3; v++) {
            x.variables(v);
            isMade(d, x, "3", "b " + v + ",3");
            isMade(d, x, "a+a", "c " + v + ",0,0");
        }
        x.variables(2);
        d.says("of a number its LOAD, d x");
        isMade(d, x, "0", "b 2,0");
        isMade(d, x, "(3)", "b 2,3");

        d.says("Of a SIGN: the left side: a variable stays where it is (ONTO, UPON: a MOVE, d x, s that), else its CODE into x");
        isMade(d, x, "b+a", "c 2,1,0");
        isMade(d, x, "b-1", "d 2,1,1");
        isMade(d, x, "b&a", "a 2,1; e 2,0");
        isMade(d, x, "b|1", "a 2,1; f 2,1");
        isMade(d, x, "1+a", "b 2,1; c 2,2,0");
        isMade(d, x, "1-2", "b 2,1; d 2,2,2");
        isMade(d, x, "1&b", "b 2,1; e 2,1");
        isMade(d, x, "1|2", "b 2,1; f 2,2");
        isMade(d, x, "(a+b)+a", "c 2,0,1; c 2,2,0");

        d.says("then (THREE, ONTO) the right side: a variable stays, else its CODE into x, if the left side stayed a variable, into x + 1 else");
        isMade(d, x, "a+(b+b)", "c 2,1,1; c 2,0,2");
        isMade(d, x, "a+3", "b 2,3; c 2,0,2");
        isMade(d, x, "1+2", "b 2,1; b 3,2; c 2,2,3");
        isMade(d, x, "a&(b+b)", "a 2,0; c 3,1,1; e 2,3");
        isMade(d, x, "a&3", "a 2,0; b 3,3; e 2,3");
        isMade(d, x, "(a+b)&(b+a)", "c 2,0,1; c 3,1,0; e 2,3");
        isMade(d, x, "a+(b+(a+(b+1)))", "b 2,1; c 2,1,2; c 2,0,2; c 2,1,2; c 2,0,2");
    }

    private static void codeOfOrder(Sentences d) {
        OrdersTold x = six();
        d.says("then the ORDER: d x, s the left side's REGISTER (ONTO: the right side's), t the right side's, i the number");
        isMade(d, x, "a+b", "c 2,0,1");
        isMade(d, x, "b+a", "c 2,1,0");
        isMade(d, x, "a-3", "d 2,0,3");
        isMade(d, x, "a+b-0", "c 2,0,1; d 2,2,0");
        isMade(d, x, "a&b", "a 2,0; e 2,1");
        isMade(d, x, "a|3", "a 2,0; f 2,3");
        OrdersTold narrow = Checks.told(2, 1, 8, "a:00000sdi:d=s-i:1");
        isMade(d, narrow, "a-253", "a 1,0,1");

        d.says("Of but a variable: its MOVE into V");
        isMade(d, x, "a", "a 2,0");
        isMade(d, x, "b", "a 2,1");
        isMade(d, x, "((((((b))))))", "a 2,1");
        x.variables(3);
        isMade(d, x, "c", "a 3,2");
    }

    private static void pricePromise(Sentences d) {
        d.in("promise 29");
        OrdersTold x = with("d=s:2", "d=i:3", "d=s+t:5");
        d.says("PRICE of THE SUM");
        d.due("the latest", price(x, "a+b"), 5);
        d.due("the latest", price(x, "3"), 3);
        d.due("again", x.price(), 3);
        d.due("20 numbers", price(x, TWENTY), 20 * 3 + 19 * 5);
        Checks.sum(x, "3");
        Checks.order(x, "x:111111ddii00:d=i:1");
        d.due("with the ORDERS as they are", x.price(), 1);
        d.says("NOT: none is read");
        x.variables(2);
        d.due("since variables()", x.price(), NOT);
        x.begin(8, 2, 8);
        d.due("since begin()", x.price(), NOT);
        d.due("at first", new OrdersTold().price(), NOT);
        Checks.sum(x, "c");
        d.due("a FAULT is none", x.price(), NOT);
        d.says("NONE: it can't be covered");
        d.due("no ORDERS", price(x, "1"), NONE);
        Checks.order(x, "x:0000ddii:d=i:9");
        d.due("now it can", x.price(), 9);
        x.unorder();
        d.due("no more", x.price(), NONE);
    }

    private static void makePromise(Sentences d) {
        d.in("promise 30");
        OrdersTold x = with("d=s:1", "d=i:1", "d=d+s:1");
        d.says("CODE for THE SUM from a place on: how many places");
        Checks.sum(x, "1+2");
        d.due("from 0", x.make(0), 3);
        d.due("nothing behind it", x.code(3), 0);
        x.put(19, 1000);
        x.put(23, 1001);
        d.due("from 20", x.make(20), 3);
        d.due("the place ahead stays", x.code(19), 1000);
        d.due("the place behind stays", x.code(23), 1001);
        for (int i = 0; i < 3; i++) {
            d.due("the same", x.code(20 + i), x.code(i));
        }
        d.due("the last places", x.make(61), 3);
        d.due("20 numbers", Checks.sum(x, TWENTY) + x.make(25), 20 + 39);
        d.due("20 numbers, a place too few", x.make(26), FULL);
        OrdersTold y = Checks.told(8, 3, 12, "m:000000dddsss:d=s:1", "l:0001000dddii:d=i:1", "o:001000dddsss:d=d&s:1",
                "t:111dddsssttt:d=s+t:1");
        y.variables(2);
        isMade(d, y, "a+b+a", "t 2,0,1; t 2,2,0");
        isMade(d, y, "1&(2&(b&a))", "l 2,1; l 3,2; m 4,1; o 4,0; o 3,4; o 2,3");
        Checks.sum(x, "1+2");
        d.says("BAD");
        d.due("64", x.make(64), BAD);
        for (int far : FAR) {
            d.due("far", x.make(far), BAD);
        }
        d.due("ahead of NOT", new OrdersTold().make(64), BAD);
        Checks.sum(x, "a-b");
        d.due("ahead of NONE", x.make(64), BAD);
        d.says("NOT");
        d.due("none is read", new OrdersTold().make(0), NOT);
        d.says("NONE");
        x.put(63, 5);
        d.due("it can't be covered", x.make(0), NONE);
        d.due("ahead of FULL", x.make(63), NONE);
        d.due("nothing is put", x.code(63), 5);

        d.says("FULL: a REGISTER, a place that is not there (nothing is put)");
        Checks.sum(x, "1+2");
        x.put(62, 7);
        x.put(63, 8);
        d.due("one place is not there", x.make(62), FULL);
        d.due("nothing is put at 62", x.code(62), 7);
        d.due("nothing is put at 63", x.code(63), 8);
        d.due("two places are not there", x.make(63), FULL);
        Checks.sum(x, "3");
        d.due("just one place", x.make(63), 1);
        Checks.sum(x, "1+(2+b)");
        d.due("the last REGISTER", x.make(0), 4);
        x.put(0, 9);
        Checks.sum(x, "1+(2+(3+b))");
        d.due("one REGISTER is not there", x.make(0), FULL);
        d.due("nothing is put at 0", x.code(0), 9);
        x.variables(4);
        String[] sums = {"1", "a", "a+b"};
        for (String sum : sums) {
            Checks.sum(x, sum);
            d.due("V is not there, " + sum, x.make(0), FULL);
        }
        d.due("though it has a PRICE", x.price(), 2);
        d.due("nothing is put at 0", x.code(0), 9);
    }
}
