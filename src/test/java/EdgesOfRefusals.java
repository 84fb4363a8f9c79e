import java.util.ArrayList;
import java.util.List;
import java.util.function.ToIntFunction;

/** What the document says of an object's calls and of all refusals: which comes first, and that nothing changes. */
final class EdgesOfRefusals {
    private static final int BAD = OrdersTold.BAD, NOT = OrdersTold.NOT, FULL = OrdersTold.FULL, NONE = OrdersTold.NONE,
            STOP = OrdersTold.STOP;
    private static final int NULL = OrdersTold.NULL, CAST = OrdersTold.CAST, INDEX = OrdersTold.INDEX, SIZE = OrdersTold.SIZE;

    private EdgesOfRefusals() {
    }

    static void all(Sentences d) {
        d.in("use");
        lastCall(d);
        d.in("refusals");
        numbers(d);
        theFirst(d);
        whatTheMachineFinds(d);
        nothingChanges(d);
    }

    private static void lastCall(Sentences d) {
        d.says("An object is used for at most 512 calls after it has been made; what later calls answer is free");
        OrdersTold x = new OrdersTold();
        Checks.type(x, "a:00dd0000:d=d+1:1");
        d.due("call 4, behind three of type()", x.order(), 0);
        for (int call = 5; call <= 510; call++) {
            x.run(2000);
        }
        d.due("call 511", x.run(2000), 2000);
        d.due("call 512", x.so(0), 507 * 2000);
    }

    private static void numbers(Sentences d) {
        d.says("BAD -1 (a number is not as told, or names nothing)");
        d.due("BAD", BAD, -1);
        d.due("not as told", new OrdersTold().run(0), -1);
        d.due("names nothing", new OrdersTold().about(0, 0), -1);
        d.says("NOT -2 (as told)");
        d.due("NOT", NOT, -2);
        d.due("a call", new OrdersTold().unorder(), -2);
        d.says("FULL -3");
        d.due("FULL", FULL, -3);
        OrdersTold x = new OrdersTold();
        Checks.type(x, "a".repeat(80));
        d.due("a call", x.type('a', 1), -3);
        d.says("NONE -4 (as told)");
        d.due("NONE", NONE, -4);
        d.due("a call", x.look(0), -4);
        d.says("STOP -5 (the code is no ORDER there)");
        d.due("STOP", STOP, -5);
        d.due("a call", x.run(1), -5);
        d.says("what the machine finds: NULL -11, CAST -12, INDEX -13, SIZE -14");
        x.sheet(0, 0, 1);
        int[] got = {NULL, CAST, INDEX, SIZE, x.drop(1), x.item(0, 1, 0, 0), x.item(0, 0, 1, 0), x.sheet(0, 0, -1)};
        for (int n = 0; n < got.length; n++) {
            d.due("finding " + n, got[n], -11 - n % 4);
        }
    }

    private static void theFirst(Sentences d) {
        d.says("Refusals are answers, of several the first that a call names");
        OrdersTold x = new OrdersTold();
        Checks.type(x, "a".repeat(80));
        d.due("type: BAD, FULL", x.type(0, 1), BAD);
        x = full();
        d.due("order: a FAULT, FULL", Checks.order(x, "zz:000000:z=0:0"), -34);
        d.due("order: NOT, FULL", Checks.order(x, "zz:000000:z=0:1"), NOT);
        d.due("field: BAD, NONE", x.field(63, 4), BAD);
        d.due("text: BAD, NONE", x.text(63, -2), BAD);
        x.set(3, 0, 5);
        x.put(5, 63);
        d.due("run: BAD, STOP", x.run(2001), BAD);
        d.due("back: BAD, NOT", x.back(101), BAD);
        d.due("make: BAD, NOT", x.make(64), BAD);
        Checks.sum(x, "a+a");
        d.due("make: BAD, NONE", x.make(64), BAD);
        x.variables(2);
        Checks.sum(x, "a+a");
        d.due("make: NONE, FULL", x.make(63), NONE);
        d.due("join: BAD, a FAULT", x.join(20, 0), BAD);
        d.due("join: a FAULT, NOT", Checks.join(x, "a", 1, 1), -20);
        d.due("join: NOT, FULL", Checks.join(x, "zz", 1, 1), NOT);
        d.due("join: FULL", Checks.join(x, "zz", 0, 0), FULL);
        d.due("drop: BAD, NULL", x.drop(4), BAD);
    }

    /** Twenty orders, of which b names p. */
    private static OrdersTold full() {
        OrdersTold x = Checks.told(8, 1, 6);
        for (int n = 0; n < 20; n++) {
            Checks.order(x, (char) ('a' + n) + ":" + Integer.toBinaryString(64 + n).substring(1) + (n == 1 ? ":p=0:1" : ":z=0:1"));
        }
        return x;
    }

    private static void whatTheMachineFinds(Sentences d) {
        d.says("in this order, behind BAD");
        OrdersTold x = new OrdersTold();
        x.sheet(0, 0, 3);
        x.item(0, 0, 0, -1);
        d.due("log: BAD, NULL", x.log(1, 0, 0, 11), BAD);
        d.due("log: BAD, CAST, INDEX", x.log(0, 1, 9, 11), BAD);
        d.due("log: NULL, INDEX", x.log(1, 0, 9, 1), NULL);
        d.due("log: CAST, INDEX", x.log(0, 1, 9, 1), CAST);
        d.due("load: BAD, NULL", x.load(1, 0, 0, 64, 1), BAD);
        d.due("load: BAD, CAST, INDEX", x.load(0, 1, 9, 64, 1), BAD);
        d.due("load: NULL, INDEX", x.load(1, 0, 9, 0, 1), NULL);
        d.due("load: CAST, INDEX", x.load(0, 1, 9, 0, 1), CAST);
        d.due("load: CAST, NOT", x.load(0, 1, 0, 0, 1), CAST);
        d.due("load: INDEX, NOT", x.load(0, 0, 0, 0, 4), INDEX);
        d.due("item: BAD, NULL", x.item(1, 3, 9, 0), BAD);
        d.due("item: NULL, INDEX", x.item(1, 0, 9, 0), NULL);
        d.due("item: CAST, INDEX", x.item(0, 1, 9, 0), CAST);
        d.due("sheet: BAD, SIZE", x.sheet(4, 0, -1), BAD);
    }

    private static final class Refused {
        final String call;
        final int answer;
        final boolean emptiesTape;
        final ToIntFunction<OrdersTold> made;

        Refused(String call, int answer, boolean emptiesTape, ToIntFunction<OrdersTold> made) {
            this.call = call;
            this.answer = answer;
            this.emptiesTape = emptiesTape;
            this.made = made;
        }
    }

    /** An object that is as at first in nothing, with five bytes on its tape. */
    private static OrdersTold used() {
        OrdersTold x = Checks.told(4, 1, 6, "m:0000ds:d=s:2", "l:0001di:d=i:3", "j:1000ii:p=i:4", "n:0010ds:[d]=d,d=d+1,z=1:5");
        x.variables(2);
        x.flush(7);
        x.put(0, 0b001011);
        x.put(2, 0b100000);
        x.put(9, 63);
        Checks.order(x, "s:0000dd:z=0:1");
        Checks.order(x, "s:0000ii:z=0:1");
        Checks.sum(x, "b");
        x.sheet(0, 0, 3);
        x.item(0, 0, 1, -7);
        x.sheet(1, 2, 4);
        x.item(1, 2, 3, 33);
        x.run(11);
        Checks.type(x, "qrs t");
        return x;
    }

    /** All that can be seen of an object; what must change it to be seen comes last. */
    private static List<Integer> seen(OrdersTold x) {
        List<Integer> seen = new ArrayList<>();
        for (int what = 0; what < 5; what++) {
            seen.add(x.count(what));
        }
        for (int place = 0; place < 64; place++) {
            seen.add(x.code(place));
        }
        for (int i = 0; i < 16; i++) {
            seen.add(x.get(1, i));
        }
        for (int i = 0; i < 4; i++) {
            seen.add(x.get(i < 2 ? 0 : i, i & 1));
            seen.add(x.so(i));
            seen.add(x.about(i, 5));
        }
        seen.add(x.holes());
        seen.add(x.shared());
        seen.add(x.price());
        seen.add(x.value());
        seen.add(x.type('a', 1));
        x.run(2);
        seen.add(x.so(1));
        seen.add(x.so(2));
        seen.add(x.so(3));
        seen.add(x.back(4));
        seen.add(x.get(0, 0));
        seen.add(x.load(1, 2, 3, 0, 1));
        seen.add(x.code(0));
        seen.add(x.load(0, 0, 1, 0, 1));
        for (int sheet = 0; sheet < 4; sheet++) {
            seen.add(x.drop(sheet));
        }
        return seen;
    }

    private static List<Refused> refusedCalls() {
        List<Refused> all = new ArrayList<>();
        all.add(new Refused("begin", BAD, false, x -> x.begin(1, 1, 6)));
        all.add(new Refused("type BAD", BAD, false, x -> x.type(0x6161616161616109L, 8)));
        all.add(new Refused("about", BAD, false, x -> x.about(4, 0)));
        all.add(new Refused("look BAD", BAD, false, x -> x.look(64)));
        all.add(new Refused("look NONE", NONE, false, x -> x.look(63)));
        all.add(new Refused("field", NONE, false, x -> x.field(0, 2)));
        all.add(new Refused("hole", BAD, false, x -> x.hole(64)));
        all.add(new Refused("count", BAD, false, x -> x.count(5)));
        all.add(new Refused("reads", BAD, false, x -> x.reads(4)));
        all.add(new Refused("writes", BAD, false, x -> x.writes(4)));
        all.add(new Refused("like", BAD, false, x -> x.like(0, 4)));
        all.add(new Refused("put at 64", BAD, false, x -> x.put(64, 1)));
        all.add(new Refused("put 64", BAD, false, x -> x.put(3, 64)));
        all.add(new Refused("set a register", BAD, false, x -> x.set(0, 0, 16)));
        all.add(new Refused("set memory", BAD, false, x -> x.set(1, 0, 16)));
        all.add(new Refused("set Z", BAD, false, x -> x.set(2, 0, 2)));
        all.add(new Refused("set P", BAD, false, x -> x.set(3, 0, 64)));
        all.add(new Refused("run", BAD, false, x -> x.run(2001)));
        all.add(new Refused("back BAD", BAD, false, x -> x.back(101)));
        all.add(new Refused("back NOT", NOT, false, x -> x.back(12)));
        all.add(new Refused("flush", BAD, false, x -> x.flush(10)));
        all.add(new Refused("text", NONE, false, x -> x.text(63, 0)));
        all.add(new Refused("variables", BAD, false, x -> x.variables(3)));
        all.add(new Refused("make BAD", BAD, false, x -> x.make(64)));
        all.add(new Refused("make FULL", FULL, false, x -> x.make(3)));
        all.add(new Refused("pairs", BAD, false, x -> x.pairs(0, 0, 65)));
        all.add(new Refused("room", NOT, false, x -> x.room(2, 2)));
        all.add(new Refused("best", BAD, false, x -> x.best(65)));
        all.add(new Refused("join BAD", BAD, false, x -> x.join(0, 4)));
        all.add(new Refused("log BAD", BAD, false, x -> x.log(0, 0, 0, 11)));
        all.add(new Refused("log NULL", NULL, false, x -> x.log(2, 0, 0, 1)));
        all.add(new Refused("log CAST", CAST, false, x -> x.log(0, 1, 0, 1)));
        all.add(new Refused("log INDEX", INDEX, false, x -> x.log(0, 0, 1, 1)));
        all.add(new Refused("load BAD", BAD, false, x -> x.load(1, 2, 3, 64, 1)));
        all.add(new Refused("load NULL", NULL, false, x -> x.load(2, 2, 3, 3, 1)));
        all.add(new Refused("load CAST", CAST, false, x -> x.load(1, 1, 3, 3, 1)));
        all.add(new Refused("load INDEX", INDEX, false, x -> x.load(1, 2, 3, 3, 2)));
        all.add(new Refused("load NOT", NOT, false, x -> x.load(0, 0, 0, 3, 3)));
        all.add(new Refused("sheet BAD", BAD, false, x -> x.sheet(0, 0, 31)));
        all.add(new Refused("sheet SIZE", SIZE, false, x -> x.sheet(0, 0, -1)));
        all.add(new Refused("drop BAD", BAD, false, x -> x.drop(4)));
        all.add(new Refused("drop NULL", NULL, false, x -> x.drop(2)));
        all.add(new Refused("item BAD", BAD, false, x -> x.item(1, 3, 3, 9)));
        all.add(new Refused("item CAST", CAST, false, x -> x.item(1, 1, 3, 9)));
        all.add(new Refused("item INDEX", INDEX, false, x -> x.item(1, 2, 4, 9)));
        all.add(new Refused("order", -24, true, OrdersTold::order));
        all.add(new Refused("line", -20, true, OrdersTold::line));
        all.add(new Refused("sum", -20, true, OrdersTold::sum));
        all.add(new Refused("join, a FAULT", -24, true, x -> x.join(0, 1)));
        return all;
    }

    private static void nothingChanges(Sentences d) {
        d.says("What is refused changes nothing");
        List<Integer> untouched = seen(used());
        for (Refused one : refusedCalls()) {
            OrdersTold x = used();
            d.due(one.call, one.made.applyAsInt(x), one.answer);
            if (one.emptiesTape) {
                d.due(one.call + ": THE TAPE is empty", x.type('a', 1), 1);
                Checks.type(x, "aaaa");
            }
            List<Integer> now = seen(x);
            for (int i = 0; i < untouched.size(); i++) {
                d.due(one.call + ": seen " + i, now.get(i), untouched.get(i));
            }
        }
        refusedOrders(d);
    }

    /** Nothing of a text that is refused is in the order behind it. */
    private static void refusedOrders(Sentences d) {
        String[] refused = {"a:11ssttii:?s,[t]=s,z=p,t=i:9x", "a:11ssttii:?!t,[i]=[s]+[t]:0", "a:11iiiiii:p=i:0", "a:ttttttt", "b:1111111s:z=0:1",
            "abc"};
        for (String text : refused) {
            OrdersTold x = new OrdersTold();
            d.due("'" + text + "' is refused", Checks.order(x, text) <= -20 ? 1 : 0, 1);
            d.due("none is told", x.count(0), 0);
            d.due("behind it", Checks.order(x, "b:0000ddii:d=i:2"), 0);
            int[] due = {2, 1, 0, 9, 2, 0};
            for (int what = 0; what < due.length; what++) {
                d.due("behind '" + text + "', about " + what, x.about(0, what), due[what]);
            }
            Checks.sum(x, "3");
            x.run(3);
            int[] got = {x.reads(0), x.writes(0), x.holes(), x.price(), x.so(1), x.so(2), x.room(0, 0), Checks.line(x, "b 1,2")};
            int[] want = {0, 1, 240, 2, 6, 0, 16, 6};
            for (int i = 0; i < want.length; i++) {
                d.due("behind '" + text + "', " + i, got[i], want[i]);
            }
        }
    }
}
