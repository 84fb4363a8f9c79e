/** Promises 38 to 40: sheets that may be missing. */
public final class SheetsTest {
    public static void main(String[] args) {
        Checks c = new Checks("sheets");
        layAndDrop(c);
        items(c);
        lanesCutItems(c);
        staysOverBegin(c);
        c.end();
    }

    private static void layAndDrop(Checks c) {
        OrdersTold x = new OrdersTold();
        for (int sheet = 0; sheet < 4; sheet++) {
            c.due("38, 39: nothing at first", x.drop(sheet), OrdersTold.NULL);
        }
        c.due("38: lowest", x.sheet(0, 0, 0), 0);
        c.due("38: highest", x.sheet(3, 2, 30), 30);
        c.due("38: n above 30", x.sheet(0, 0, 31), OrdersTold.BAD);
        c.due("38: n below 0", x.sheet(0, 0, -1), OrdersTold.SIZE);
        c.due("38: least n", x.sheet(0, 0, Integer.MIN_VALUE), OrdersTold.SIZE);
        c.due("38: sheet below", x.sheet(-1, 0, 1), OrdersTold.BAD);
        c.due("38: sheet above", x.sheet(4, 0, 1), OrdersTold.BAD);
        c.due("38: lane below", x.sheet(0, -1, 1), OrdersTold.BAD);
        c.due("38: lane above", x.sheet(0, 3, 1), OrdersTold.BAD);
        c.due("38: BAD ahead of SIZE", x.sheet(4, 0, -1), OrdersTold.BAD);
        c.due("39: refused rows changed nothing", x.drop(0), 0);
        c.due("39: it is gone", x.drop(0), OrdersTold.NULL);
        c.due("39: how many", x.drop(3), 30);
        c.due("39: below", x.drop(-1), OrdersTold.BAD);
        c.due("39: above", x.drop(4), OrdersTold.BAD);
    }

    private static void items(Checks c) {
        OrdersTold x = new OrdersTold();
        c.due("40: nothing there", x.item(1, 1, 0, 5), OrdersTold.NULL);
        x.sheet(1, 1, 3);
        c.due("40: first", x.item(1, 1, 0, 5), 1);
        c.due("40: last", x.item(1, 1, 2, 5), 1);
        c.due("40: beyond", x.item(1, 1, 3, 5), OrdersTold.INDEX);
        c.due("40: below", x.item(1, 1, -1, 5), OrdersTold.INDEX);
        c.due("40: far below", x.item(1, 1, Integer.MIN_VALUE, 5), OrdersTold.INDEX);
        c.due("40: far beyond", x.item(1, 1, Integer.MAX_VALUE, 5), OrdersTold.INDEX);
        c.due("40: another lane", x.item(1, 0, 0, 5), OrdersTold.CAST);
        c.due("40: CAST ahead of INDEX", x.item(1, 2, 9, 5), OrdersTold.CAST);
        c.due("40: no lane", x.item(1, 3, 0, 5), OrdersTold.BAD);
        c.due("40: no lane below", x.item(1, -1, 0, 5), OrdersTold.BAD);
        c.due("40: no sheet", x.item(4, 1, 0, 5), OrdersTold.BAD);
        c.due("40: no sheet below", x.item(-1, 1, 0, 5), OrdersTold.BAD);
        c.due("40: BAD ahead of NULL", x.item(0, 3, 0, 5), OrdersTold.BAD);
    }

    private static void lanesCutItems(Checks c) {
        OrdersTold x = new OrdersTold();
        int[] told = {0, 127, 128, 255, 256, 257, -1, 32767, 32768, 65536, 65537};
        int[] asByte = {0, 127, -1, -1, 0, 1, -1, -1, 0, 0, 1};
        int[] asShort = {0, 127, 128, 255, -1, -1, -1, -1, -1, 0, 1};
        int[] asInt = {0, 127, 128, 255, -1, -1, -1, -1, -1, -1, -1};
        for (int i = 0; i < told.length; i++) {
            int[] due = {asByte[i], asShort[i], asInt[i]};
            for (int lane = 0; lane < 3; lane++) {
                x.sheet(0, lane, 1);
                x.item(0, lane, 0, told[i]);
                // Code takes what is bits, so that it tells what the item became.
                int took = x.load(0, lane, 0, 0, 1);
                c.due("40: lane " + lane + " of " + told[i], took == 1 ? x.code(0) : -1, due[lane]);
            }
        }
    }

    private static void staysOverBegin(Checks c) {
        OrdersTold x = new OrdersTold();
        x.sheet(2, 0, 4);
        x.item(2, 0, 1, 63);
        x.begin(4, 1, 6);
        c.due("2: sheets stay", x.load(2, 0, 1, 5, 1), 1);
        c.due("2: with their items", x.code(5), 63);
        x.sheet(2, 0, 4);
        x.load(2, 0, 1, 5, 1);
        c.due("38: a new row is all 0", x.code(5), 0);
    }
}
