/** What section 2 of the document's terms says, with promises 13 to 15: what orders read and write, which are like. */
final class EdgesOfNarrow {
    private static final int BAD = OrdersTold.BAD;
    private static final int[] NO_ORDERS = {Integer.MIN_VALUE, -1, 2, 19, 20, Integer.MAX_VALUE};

    private EdgesOfNarrow() {
    }

    static void all(Sentences d) {
        d.in("2");
        machine(d);
        reads(d);
        writes(d);
        likeOnes(d);
        promises(d);
    }

    /** Two orders of a wide machine, by what they do. */
    private static OrdersTold two(String one, String other) {
        return Checks.told(8, 1, 10, "a:00000dstii:" + one + ":1", "b:11111dstii:" + other + ":1");
    }

    private static int readsOf(String does) {
        return two(does, "z=z").reads(0);
    }

    private static int writesOf(String does) {
        return two(does, "z=z").writes(0);
    }

    private static int like(String one, String other) {
        return two(one, other).like(0, 1);
    }

    private static void machine(Sentences d) {
        d.says("THE NARROW machine: W 2");
        d.due("4 is 0", like("d=4", "d=0"), 1);
        d.due("3 is not", like("d=3", "d=0"), 0);
        d.due("255 is 3", like("d=255", "d=3"), 1);
        d.due("a WORD may be 3", like("z=2<s", "z=0"), 0);
        d.due("but not more", like("z=3<s", "z=0"), 1);
        d.due("sums go round", like("d=s+4", "d=s"), 1);
        d.due("below 0, too", like("d=s-1", "d=s+3"), 1);
        d.due("and are held so against others", like("z=4<s", "z=0<s"), 1);
        d.due("whatever W is told", Checks.told(2, 1, 8, "a:000000ds:d=s+4:1").reads(0), readsOf("d=s+4"));

        d.says("d, s, t are three WORDS");
        d.due("s is not t", like("d=s", "d=t"), 0);
        d.due("d is not s, though both may name one REGISTER", like("d=1,s=2", "s=2,d=1"), 1);
        d.due("K does not matter", Checks.told(8, 3, 12, "a:000dddsssttt:d=s-t,t=d:1").reads(0), 6);

        d.says("i one of 0 .. 3");
        d.due("3 is one", like("z=2<i", "z=0"), 0);
        d.due("2 is one", like("d=i", "d=i&1"), 0);
        d.due("4 is none", like("d=i", "d=i&3"), 1);
        d.due("also where i has a single bit", Checks.told(8, 1, 8, "a:000000di:d=i:1", "b:111111di:d=i&1:1").like(0, 1), 0);
        d.due("also where i has eight", Checks.told(8, 1, 12, "a:000diiiiiiii:d=i:1", "b:111diiiiiiii:d=i&3:1").like(0, 1), 1);

        d.says("MEMORY has 4 WORDS");
        d.due("a last", like("[s]=1", "[s]=1,[i]=[i]"), 1);
        d.due("each may be another", like("[s]=0", "[t]=0"), 0);
        d.due("the last is written", writesOf("d=3,[d]=s"), 33);
        d.due("the last is read", readsOf("d=3,d=[d]"), 32);
        d.due("the last may be another", like("d=3,[d]=1", "d=3,[d]=2"), 0);
        d.due("the last is not i", like("d=3,[d]=0,s=i", "d=3,[d]=0,s=0"), 0);
        d.due("a WORD of it may be 3", like("z=2<[i]", "z=0"), 0);
        d.due("round behind it", like("d=3,[d]=1", "d=7,[d]=1"), 1);

        d.says("Z, and P is 0 .. 3 (as a TARGET modulo 4; nothing is added to it)");
        d.due("4 is 0", like("p=4", "p=0"), 1);
        d.due("64 is 0", like("p=64", "p=0"), 1);
        d.due("3 is not", like("p=3", "p=0"), 0);
        d.due("P may be 3", like("z=2<p", "z=0"), 0);
        d.due("one more than 3 is 0", like("p=p+1", "p=p-3"), 1);
        d.due("nothing is added", writesOf("d=0"), 1);
        d.due("it stays", writesOf("p=p"), 0);
        d.due("nothing is added ahead of an ACT", like("d=p", "p=p+1,d=p,p=p-1"), 0);

        d.says("Its stores are d, s, t, Z, P, and each WORD of MEMORY");
        d.due("all are written", writesOf("d=d+1,s=s+1,t=t+1") | writesOf("z=z^1,p=p+1,[d]=1"), 63);
        d.due("all are read", readsOf("d=d+1,s=s+1,t=t+1") | readsOf("z=z^1,p=p+1,d=[d]"), 63);
        d.due("i is none", readsOf("d=i") | writesOf("d=i,d=d"), 1);
    }

    private static void reads(Sentences d) {
        d.says("An ORDER READS a store, if there are two states (of one i) that differ in that store alone, behind which another store is unlike");
        d.due("s into d", readsOf("d=s"), 2);
        d.due("two of them", readsOf("d=s+t"), 6);
        d.due("one that counts for nothing", readsOf("d=s+t,d=s"), 2);
        d.due("one that never shows", readsOf("d=s&0"), 0);
        d.due("one that shows for some states alone", readsOf("d=s&t"), 6);
        d.due("i is no state", readsOf("d=i"), 0);
        d.due("but may tell which WORD", readsOf("d=[i]"), 32);
        d.due("nor MEMORY", readsOf("d=[i]&0,s=i"), 0);
        d.due("a GUARD", readsOf("?s,d=0"), 2);
        d.due("d for a GUARD that changes d alone to what it is", readsOf("?!d,d=0"), 0);
        d.due("where in MEMORY", readsOf("[s]=0"), 2);
        d.due("not MEMORY that is overwritten", readsOf("[s]=t"), 6);
        d.due("Z into P", readsOf("p=z"), 8);
        d.due("P into Z", readsOf("z=p"), 16);
        d.due("itself told twice is nothing", readsOf("d=s-s"), 0);

        d.says("or that store is unlike, and in one of both at least another than ahead");
        d.due("d moved on", readsOf("d=d+1"), 1);
        d.due("d as it is", readsOf("d=d"), 0);
        d.due("d as it is, round about", readsOf("d=d+4"), 0);
        d.due("unlike, another in some states alone", readsOf("d=d&1"), 1);
        d.due("another, but never unlike", readsOf("d=d&0"), 0);
        d.due("another, but never unlike, by a GUARD", readsOf("?d,d=0"), 0);
        d.due("Z turned", readsOf("z=z^1"), 8);
        d.due("Z made 1 where it is 0", readsOf("?!z,z=1"), 0);
        d.due("P moved on", readsOf("p=p+1"), 16);
        d.due("P as it is", readsOf("p=p"), 0);
        d.due("a WORD of MEMORY", readsOf("[i]=[i]+1"), 32);
        d.due("a WORD of MEMORY as it is", readsOf("[s]=[s]"), 0);
        d.due("a WORD of MEMORY, a GUARD", readsOf("?s,[i]=[i]+1"), 34);
    }

    private static void writes(Sentences d) {
        d.says("It WRITES a store that is another behind some state than ahead");
        d.due("d", writesOf("d=0"), 1);
        d.due("d as it is", writesOf("d=d"), 0);
        d.due("d as it is, behind a GUARD that wants that", writesOf("?!d,d=0"), 0);
        d.due("in some states alone", writesOf("d=d&2"), 1);
        d.due("there and back", writesOf("d=d+1,d=d-1"), 0);
        d.due("two turned", writesOf("d=d^s,s=d^s,d=d^s"), 3);
        d.due("Z", writesOf("z=2"), 8);
        d.due("P", writesOf("p=3"), 16);
        d.due("P by 4 is none", writesOf("p=p+4"), 0);
        d.due("each in a state of its own", writesOf("d=d+z,z=z^1,s=s+z"), 11);
        d.due("what a GUARD never lets", writesOf("z=0,p=p,d=d"), 8);

        d.says("Told are bits: 1 d, 2 s, 4 t, 8 Z, 16 P, 32 MEMORY (some WORD of it)");
        String[] stores = {"d", "s", "t", "z", "p"};
        for (int n = 0; n < stores.length; n++) {
            d.due(stores[n], writesOf(stores[n] + "=1"), 1 << n);
            d.due("reads " + stores[n], readsOf(stores[n] + "=" + stores[n] + "^1"), 1 << n);
        }
        for (char f : "dsti".toCharArray()) {
            d.due("MEMORY at " + f, writesOf("[" + f + "]=1"), 32);
        }
        d.due("reads MEMORY", readsOf("p=[i]"), 32);
        d.due("one WORD of it", writesOf("d=0,[d]=1,d=d"), 33);
    }

    private static void likeOnes(Sentences d) {
        d.says("Two ORDERS are LIKE, if for all states and i they leave the same");
        d.due("told alike", like("d=s", "d=s"), 1);
        d.due("turned", like("d=s+t", "d=t+s"), 1);
        d.due("turned, but not alike", like("d=s-t", "d=t-s"), 0);
        d.due("but for one state", like("z=s", "z=s&1"), 0);
        d.due("but for one state of all", like("z=s&t", "z=s|t"), 0);
        d.due("but for 3 in all of d, s, t", like("d=d&s,d=d&t,z=2<d", "d=d&s,d=d&t,z=0"), 0);
        d.due("but for 3 in d, s and i", like("d=d&s,d=d&i,z=2<d", "d=d&s,d=d&i,z=0"), 0);
        d.due("but for 3 in two WORDS of MEMORY and P", like("d=[s]&[t],d=d&p,z=2<d", "d=[s]&[t],d=d&p,z=0"), 0);
        d.due("but for states with t below s", like("d=s,z=t<d", "d=s,z=0"), 0);
        d.due("but for 0 in d, s, t", like("d=d|s,d=d|t,z=d", "d=d|s,d=d|t,z=1"), 0);
        d.due("but for one i", like("d=i", "d=i&2"), 0);
        d.due("but for P", like("d=s", "d=s,p=0"), 0);
        d.due("but for a WORD of MEMORY", like("d=s", "d=s,[t]=0"), 0);
        d.due("nothing done by either", like("d=d", "[t]=[t]"), 1);
        d.due("a GUARD that changes nothing", like("?d,d=0", "d=0"), 1);
        d.due("a GUARD that does", like("?d,s=0", "s=0"), 0);
        d.due("TICKS count for nothing", Checks.told(8, 1, 6, "a:0000ds:d=s:1", "b:1111ds:d=s:9").like(0, 1), 1);
        d.due("nor LOOK", Checks.told(8, 1, 6, "a:0000ds:d=0:1", "b:1111sd:d=s&0:1").like(0, 1), 1);
    }

    private static void promises(Sentences d) {
        OrdersTold x = two("d=s", "z=s");
        d.in("promise 13");
        d.says("What an ORDER READS");
        d.due("the first", x.reads(0), 2);
        d.due("the last", x.reads(1), 2);
        d.says("BAD");
        for (int n : NO_ORDERS) {
            d.due("no ORDER " + n, x.reads(n), BAD);
        }
        d.due("none is told", new OrdersTold().reads(0), BAD);

        d.in("promise 14");
        d.says("What it WRITES");
        d.due("the first", x.writes(0), 1);
        d.due("the last", x.writes(1), 8);
        d.says("BAD");
        for (int n : NO_ORDERS) {
            d.due("no ORDER " + n, x.writes(n), BAD);
        }
        d.due("none is told", new OrdersTold().writes(0), BAD);

        d.in("promise 15");
        d.says("Whether two are LIKE: 1, 0");
        d.due("not", x.like(0, 1), 0);
        d.due("one with itself", x.like(1, 1), 1);
        d.says("BAD");
        for (int n : NO_ORDERS) {
            d.due("no first " + n, x.like(n, 0), BAD);
            d.due("no second " + n, x.like(0, n), BAD);
        }
        x.unorder();
        d.due("it is gone", x.like(0, 1), BAD);
    }
}
