import java.util.ArrayList;
import java.util.List;

/** Promises 13 to 15: what orders read and write, and which are like, held against a machine gone through whole. */
public final class NarrowTest {
    private static final String LOOK_A = "0000000dstii";
    private static final String LOOK_B = "1111111dstii";

    public static void main(String[] args) {
        Checks c = new Checks("narrow");
        told(c);
        wrongNumbers(c);
        likeOnes(c);
        againstAll(c);
        c.end();
    }

    private static OrdersTold with(String... does) {
        OrdersTold x = new OrdersTold();
        x.begin(8, 1, 12);
        for (int i = 0; i < does.length; i++) {
            String look = "1".repeat(i) + "0".repeat(7 - i) + "dstii";
            Checks.order(x, (char) ('a' + i) + ":" + look + ":" + does[i] + ":1");
        }
        return x;
    }

    private static void told(Checks c) {
        String[] does = {"d=s+t", "d=d", "d=d-d", "z=z", "z=z^1", "?z,z=0", "?!z,z=1", "p=p", "p=p+1", "p=i", "?d,p=s",
            "d=[s]", "[d]=s", "[d]=[d]", "[d]=[d]+1", "[i]=[i]", "d=s&0", "[d]=0,[d]=s", "d=1,d=s", "d=s,s=d,d=d^d",
            "?d,d=0", "?!d,d=0", "d=4", "z=4", "p=p&3", "p=64", "d=p", "[d]=[s],d=[t]", "?!t,t=t+1", "d=d|3", "d=d&3"};
        int[] reads = {6, 0, 0, 0, 8, 0, 0, 0, 16, 0, 3,
            34, 3, 0, 33, 0, 0, 3, 2, 0,
            0, 0, 0, 0, 0, 0, 16, 39, 4, 0, 0};
        int[] writes = {1, 0, 1, 0, 8, 8, 8, 0, 16, 16, 16,
            1, 32, 0, 32, 0, 1, 32, 1, 1,
            1, 0, 1, 8, 0, 16, 1, 33, 4, 1, 0};
        for (int i = 0; i < does.length; i++) {
            OrdersTold x = with(does[i]);
            c.due("13: reads of " + does[i], x.reads(0), reads[i]);
            c.due("14: writes of " + does[i], x.writes(0), writes[i]);
            c.due("13: told again", x.reads(0), reads[i]);
            c.due("14: told again", x.writes(0), writes[i]);
        }
    }

    private static void wrongNumbers(Checks c) {
        OrdersTold x = with("d=s", "d=t");
        int[] wrong = {-1, 2, 20, Integer.MIN_VALUE, Integer.MAX_VALUE};
        for (int n : wrong) {
            c.due("13: no order " + n, x.reads(n), OrdersTold.BAD);
            c.due("14: no order " + n, x.writes(n), OrdersTold.BAD);
            c.due("15: no order a " + n, x.like(n, 0), OrdersTold.BAD);
            c.due("15: no order b " + n, x.like(0, n), OrdersTold.BAD);
        }
        c.due("13: none told", new OrdersTold().reads(0), OrdersTold.BAD);
        x.unorder();
        Checks.order(x, "b:" + LOOK_B + ":t=d:1");
        c.due("13: another under the number", x.reads(1), 1);
        c.due("14: another under the number", x.writes(1), 4);
    }

    private static void likeOnes(Checks c) {
        String[][] like = {{"d=s", "d=s|s"}, {"d=s+t", "d=t+s"}, {"d=0", "d=d^d"}, {"d=d", "z=z"}, {"d=s", "d=s&3"},
            {"d=5", "d=1"}, {"p=64", "p=0"}, {"z=d", "z=0<d"}, {"?d,d=0", "d=0"}, {"[d]=[d]", "p=p+0"},
            {"d=i,s=i", "s=i,d=i"}, {"?z,z=0", "z=0"}};
        String[][] unlike = {{"d=s", "d=t"}, {"d=s-t", "d=t-s"}, {"d=i", "d=0"}, {"z=d", "z=d&1"}, {"d=s,s=d", "s=d,d=s"},
            {"[d]=1", "[s]=1"}, {"p=p", "p=p+1"}, {"?d,z=1", "?!d,z=1"}, {"d=s", "z=0"}};
        for (String[] two : like) {
            OrdersTold x = with(two);
            c.due("15: like " + two[0] + " and " + two[1], x.like(0, 1), 1);
            c.due("15: like the other way", x.like(1, 0), 1);
            c.due("15: like itself", x.like(0, 0), 1);
        }
        for (String[] two : unlike) {
            OrdersTold x = with(two);
            c.due("15: unlike " + two[0] + " and " + two[1], x.like(0, 1), 0);
            c.due("15: unlike the other way", x.like(1, 0), 0);
        }
    }

    private static void againstAll(Checks c) {
        Dice dice = new Dice(7);
        for (int turn = 0; turn < 60; turn++) {
            List<String> does = new ArrayList<>();
            for (int i = 0; i < 3; i++) {
                does.add(dice.does("dsti", turn % 3 + 1));
            }
            OrdersTold x = with(does.toArray(new String[0]));
            List<PlainOrder> plain = new ArrayList<>();
            for (String one : does) {
                plain.add(new PlainOrder("a", LOOK_A, one, 1));
            }
            for (int a = 0; a < 3; a++) {
                c.due("13: reads of " + does.get(a), x.reads(a), PlainNarrow.reads(plain.get(a)));
                c.due("14: writes of " + does.get(a), x.writes(a), PlainNarrow.writes(plain.get(a)));
                int b = (a + 1) % 3;
                c.due("15: like " + does.get(a) + " and " + does.get(b), x.like(a, b),
                        PlainNarrow.like(plain.get(a), plain.get(b)));
            }
        }
    }
}
