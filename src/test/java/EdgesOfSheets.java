/** What sections 5 and 6 of the document's terms say of logs and sheets, with promises 36 to 40. */
final class EdgesOfSheets {
    private static final int BAD = OrdersTold.BAD, NOT = OrdersTold.NOT;
    private static final int NULL = OrdersTold.NULL, CAST = OrdersTold.CAST, INDEX = OrdersTold.INDEX, SIZE = OrdersTold.SIZE;
    private static final int[] FAR = {Integer.MIN_VALUE, -1, Integer.MAX_VALUE};

    private EdgesOfSheets() {
    }

    static void all(Sentences d) {
        d.in("5");
        logs(d);
        d.in("6");
        sheets(d);
        logPromise(d);
        logRefusals(d);
        loadPromise(d);
        sheetPromise(d);
        dropPromise(d);
        itemPromise(d);
    }

    /** A sheet of a lane with items. */
    private static void lay(OrdersTold x, int sheet, int lane, int... items) {
        x.sheet(sheet, lane, items.length);
        for (int i = 0; i < items.length; i++) {
            x.item(sheet, lane, i, items[i]);
        }
    }

    /** Code that counts REGISTER 0 up at each place; bits 255 are a hole. */
    private static OrdersTold counting() {
        return Checks.told(8, 2, 8, "a:00dd0000:d=d+1:5");
    }

    private static int logOf(int... items) {
        OrdersTold x = counting();
        lay(x, 0, 2, items);
        return x.log(0, 2, 0, items.length / 3);
    }

    private static void logs(Sentences d) {
        d.says("A LOG is rows of three: P, a REGISTER's number, its WORD, as they are ahead of each STEP");
        d.due("two rows", logOf(0, 0, 0, 1, 0, 1), 2);
        d.due("another REGISTER", logOf(0, 3, 0, 1, 3, 0), 2);
        d.due("another P", logOf(1, 0, 0), 0);
        d.due("another WORD", logOf(0, 0, 1), 0);
        d.due("as it is behind the STEP", logOf(0, 0, 0, 1, 0, 2), 1);
        d.due("no REGISTER 4", logOf(0, 4, 0), 0);
        d.due("no REGISTER -1", logOf(0, -1, 0), 0);
        d.due("no REGISTER far", logOf(0, Integer.MAX_VALUE, 0), 0);
        d.due("a P that is not there", logOf(64, 0, 0), 0);
        d.due("a WORD that is not there", logOf(0, 0, 256), 0);
        OrdersTold x = counting();
        x.set(3, 0, 63);
        x.set(0, 0, 255);
        lay(x, 0, 2, 63, 0, 255, 0, 0, 0, 1, 0, 1);
        d.due("P and WORDS go round", x.log(0, 2, 0, 3), 3);
    }

    private static void sheets(Sentences d) {
        d.says("sheets 0 .. 3: nothing (at first)");
        OrdersTold x = new OrdersTold();
        for (int sheet = 0; sheet < 4; sheet++) {
            d.due("nothing in " + sheet, x.drop(sheet), NULL);
            d.due("a row in " + sheet, x.sheet(sheet, 0, 1 + sheet), 1 + sheet);
        }
        d.due("no sheet 4", x.sheet(4, 0, 1), BAD);
        d.due("no sheet -1", x.sheet(-1, 0, 1), BAD);
        for (int sheet = 0; sheet < 4; sheet++) {
            d.due("its own row in " + sheet, x.drop(sheet), 1 + sheet);
        }

        d.says("or a row of a LANE: 0 bytes, 1 shorts, 2 ints");
        int[] highest = {127, 32767, Integer.MAX_VALUE};
        for (int lane = 0; lane < 3; lane++) {
            d.due("a row of " + lane, x.sheet(0, lane, 3), 3);
            d.due("an item of it", x.item(0, lane, 0, highest[lane]), 1);
            for (int other = 0; other < 3; other++) {
                d.due("taken as " + other, x.item(0, other, 1, 0), other == lane ? 1 : CAST);
            }
        }
        d.due("no LANE 3", x.sheet(0, 3, 1), BAD);
        d.due("no LANE -1", x.sheet(0, -1, 1), BAD);

        d.says("of 0 to 30 items");
        d.due("0", x.sheet(0, 0, 0), 0);
        d.due("none of them", x.item(0, 0, 0, 1), INDEX);
        d.due("30", x.sheet(0, 0, 30), 30);
        d.due("the last", x.item(0, 0, 29, 1), 1);
        d.due("none behind it", x.item(0, 0, 30, 1), INDEX);
        d.due("31", x.sheet(0, 0, 31), BAD);
        d.due("-1", x.sheet(0, 0, -1), SIZE);
    }

    private static void logPromise(Sentences d) {
        d.in("promise 36");
        d.says("n rows (0 .. 10) of a LOG from a SHEET, taken as a row of a LANE, from an item on");
        for (int lane = 0; lane < 3; lane++) {
            OrdersTold x = counting();
            x.sheet(1, lane, 30);
            for (int row = 0; row < 10; row++) {
                x.item(1, lane, 3 * row, row);
                x.item(1, lane, 3 * row + 2, row);
            }
            d.due("0 rows", x.log(1, lane, 0, 0), 0);
            d.due("0 rows from the end on", x.log(1, lane, 30, 0), 0);
            d.due("1 row", x.log(1, lane, 0, 1), 1);
            d.due("10 rows", x.log(1, lane, 0, 10), 10);
            d.due("from the second on", x.log(1, lane, 3, 9), 0);
            x.run(1);
            d.due("from the second on, a STEP later", x.log(1, lane, 3, 9), 9);
            d.due("11 rows", x.log(1, lane, 0, 11), BAD);
            d.due("-1 rows", x.log(1, lane, 0, -1), BAD);
        }
        OrdersTold x = counting();
        lay(x, 0, 0, 9, 0, 0, 0, 1, 0, 1);
        d.due("from an item that is no multiple of three", x.log(0, 0, 1, 2), 2);

        d.says("held against n - 1 STEPS from now: the first row that is not so (also behind a HOLE)");
        x = counting();
        x.run(4);
        lay(x, 0, 2, 4, 0, 4, 5, 0, 5, 6, 0, 6, 7, 0, 7);
        d.due("from now", x.log(0, 2, 0, 4), 4);
        x.item(0, 2, 7, 1);
        d.due("the first that is not so", x.log(0, 2, 0, 4), 2);
        d.due("nothing behind n is looked at", x.log(0, 2, 0, 2), 2);
        x.item(0, 2, 7, 0);
        x.put(6, 255);
        d.due("up to a HOLE", x.log(0, 2, 0, 3), 3);
        d.due("behind a HOLE", x.log(0, 2, 0, 4), 3);
        x.put(4, 255);
        d.due("on a HOLE no STEP is wanted for one row", x.log(0, 2, 0, 1), 1);
        lay(x, 0, 2, 4, 0, 4, 4, 0, 4);
        d.due("behind a HOLE at once, though nothing changes", x.log(0, 2, 0, 2), 1);

        x = Checks.told(8, 2, 8, "l:00ddss00:d=[s]:1", "g:01dd0000:?z,d=9:1", "m:10ddss00:[d]=7:1");
        x.set(1, 0, 5);
        x.set(2, 0, 1);
        x.set(3, 0, 63);
        x.put(63, 0b00_11_00_00);
        x.put(0, 0b10_00_00_00);
        x.put(1, 0b01_10_0000);
        x.put(2, 0b00_01_00_00);
        lay(x, 0, 2, 63, 3, 0, 0, 3, 5, 1, 2, 0, 2, 2, 9, 3, 1, 7);
        d.due("with MEMORY, Z as they are, and as the STEPS make them", x.log(0, 2, 0, 5), 5);
        d.due("again", x.log(0, 2, 0, 5), 5);
        d.due("MEMORY is as ahead", x.get(1, 0), 5);

        x = counting();
        x.put(0, 255);
        lay(x, 0, 2, 0, 0, 0);
        d.says("n: all are");
        d.due("none of none", x.log(0, 2, 0, 0), 0);
        d.due("one of one", x.log(0, 2, 0, 1), 1);

        d.says("All is as ahead then");
        x = counting();
        x.run(1);
        lay(x, 0, 2, 1, 0, 1, 2, 0, 2, 3, 0, 3);
        x.log(0, 2, 0, 3);
        d.due("P", x.get(3, 0), 1);
        d.due("the REGISTER", x.get(0, 0), 1);
        d.due("STEPS", x.so(0), 1);
        d.due("TICKS", x.so(1), 5);
        x.run(1);
        d.due("the STEP just ahead", x.so(2), 4);
        d.due("STEPS to go BACK", x.back(2), 0);
        x = Checks.told(8, 2, 8, "s:00000000:z=0:1", "j:11iiiiii:p=i,z=1:1");
        x.put(0, 0b11_000101);
        lay(x, 0, 2, 0, 0, 0, 5, 0, 0);
        x.log(0, 2, 0, 2);
        d.due("Z", x.get(2, 0), 0);
        x.run(1);
        d.due("the guess", x.so(3), 1);
    }

    private static void logRefusals(Sentences d) {
        OrdersTold x = new OrdersTold();
        x.sheet(1, 1, 10);
        d.says("BAD");
        int[][] wrong = {{4, 1, 0, 0}, {0, 3, 0, 0}, {1, 1, 0, 11}};
        for (int[] w : wrong) {
            d.due(w[0] + ", " + w[1] + ", " + w[2] + ", " + w[3], x.log(w[0], w[1], w[2], w[3]), BAD);
        }
        for (int far : FAR) {
            d.due("SHEET " + far, x.log(far, 1, 0, 0), BAD);
            d.due("LANE " + far, x.log(1, far, 0, 0), BAD);
            d.due("n " + far, x.log(1, 1, 0, far), BAD);
        }
        d.due("ahead of NULL", x.log(0, 1, 0, 11), BAD);
        d.due("ahead of CAST", x.log(1, 2, 0, 11), BAD);
        d.due("ahead of INDEX", x.log(1, 1, 11, 11), BAD);
        d.says("NULL");
        d.due("nothing there", x.log(0, 1, 0, 0), NULL);
        d.due("ahead of INDEX", x.log(0, 1, 99, 1), NULL);
        d.says("CAST");
        d.due("bytes of shorts", x.log(1, 0, 0, 0), CAST);
        d.due("ints of shorts", x.log(1, 2, 0, 0), CAST);
        d.due("ahead of INDEX", x.log(1, 2, 99, 1), CAST);
        d.says("INDEX");
        d.due("just there", x.log(1, 1, 1, 3) >= 0 ? 1 : 0, 1);
        d.due("one beyond", x.log(1, 1, 2, 3), INDEX);
        d.due("also if the first row is not so", x.log(1, 1, 8, 1), INDEX);
        d.due("none, beyond the end", x.log(1, 1, 11, 0), INDEX);
        for (int far : FAR) {
            d.due("from " + far, x.log(1, 1, far, 0), INDEX);
            d.due("ten from " + far, x.log(1, 1, far, 10), INDEX);
        }
    }

    private static void loadPromise(Sentences d) {
        d.in("promise 37");
        OrdersTold x = new OrdersTold();
        x.sheet(0, 2, 30);
        for (int i = 0; i < 30; i++) {
            x.item(0, 2, i, 100 + i);
        }
        d.says("n items (0 .. 30) of a SHEET, taken as a row of a LANE, from one on come into CODE from a place on: n");
        d.due("0", x.load(0, 2, 0, 0, 0), 0);
        d.due("nothing came", x.code(0), 0);
        d.due("0 from the end on", x.load(0, 2, 30, 63, 0), 0);
        d.due("1 into the last", x.load(0, 2, 29, 63, 1), 1);
        d.due("it came", x.code(63), 129);
        d.due("30", x.load(0, 2, 0, 2, 30), 30);
        d.due("none ahead", x.code(1), 0);
        for (int i = 0; i < 30; i++) {
            d.due("item " + i, x.code(2 + i), 100 + i);
        }
        d.due("none behind", x.code(32), 0);
        d.due("30 into the last", x.load(0, 2, 0, 34, 30), 30);
        d.due("some from within", x.load(0, 2, 7, 0, 2), 2);
        d.due("the first of them", x.code(0), 107);

        d.says("BAD: also places beyond");
        d.due("one beyond", x.load(0, 2, 0, 35, 30), BAD);
        d.due("at 63", x.load(0, 2, 0, 63, 2), BAD);
        d.due("at 64", x.load(0, 2, 0, 64, 1), BAD);
        d.due("n 31", x.load(0, 2, 0, 0, 31), BAD);
        d.due("SHEET 4", x.load(4, 2, 0, 0, 1), BAD);
        d.due("LANE 3", x.load(0, 3, 0, 0, 1), BAD);
        for (int far : FAR) {
            d.due("SHEET " + far, x.load(far, 2, 0, 0, 1), BAD);
            d.due("LANE " + far, x.load(0, far, 0, 0, 1), BAD);
            d.due("place " + far, x.load(0, 2, 0, far, 1), BAD);
            d.due("n " + far, x.load(0, 2, 0, 0, far), BAD);
        }
        d.due("ahead of NULL", x.load(1, 2, 0, 63, 2), BAD);
        d.due("ahead of CAST", x.load(0, 1, 0, 63, 2), BAD);
        d.due("ahead of INDEX", x.load(0, 2, 29, 63, 2), BAD);
        d.says("NULL");
        d.due("nothing there", x.load(1, 2, 0, 0, 0), NULL);
        d.due("ahead of INDEX", x.load(1, 2, 99, 0, 1), NULL);
        d.says("CAST");
        d.due("another LANE", x.load(0, 1, 0, 0, 0), CAST);
        d.due("ahead of INDEX", x.load(0, 0, 99, 0, 1), CAST);
        d.says("INDEX");
        d.due("one beyond", x.load(0, 2, 1, 0, 30), INDEX);
        d.due("none, beyond the end", x.load(0, 2, 31, 0, 0), INDEX);
        for (int far : FAR) {
            d.due("from " + far, x.load(0, 2, far, 0, 0), INDEX);
            d.due("30 from " + far, x.load(0, 2, far, 0, 30), INDEX);
        }
        x.item(0, 2, 29, 256);
        d.due("ahead of NOT", x.load(0, 2, 29, 0, 2), INDEX);

        d.says("NOT: one is no bits");
        d.due("256", x.load(0, 2, 29, 0, 1), NOT);
        d.due("the last of 30", x.load(0, 2, 0, 10, 30), NOT);
        d.due("nothing came", x.code(10), 108);
        d.due("those ahead of it come", x.load(0, 2, 0, 10, 29), 29);
        x.item(0, 2, 29, -1);
        d.due("-1", x.load(0, 2, 29, 0, 1), NOT);
        x.item(0, 2, 29, 255);
        d.due("255", x.load(0, 2, 29, 0, 1), 1);
        x.begin(8, 2, 6);
        d.due("B 6", x.load(0, 2, 0, 0, 1), NOT);
        lay(x, 2, 0, 63, 64);
        d.due("63 of B 6", x.load(2, 0, 0, 0, 1), 1);
        d.due("64 of B 6", x.load(2, 0, 1, 0, 1), NOT);
    }

    private static void sheetPromise(Sentences d) {
        d.in("promise 38");
        OrdersTold x = new OrdersTold();
        d.says("A SHEET holds a new row of a LANE: n");
        for (int n = 0; n <= 30; n += 15) {
            d.due("n " + n, x.sheet(3, 2, n), n);
        }
        lay(x, 3, 2, 7, 8, 9);
        d.due("new in the place of the old", x.sheet(3, 2, 2), 2);
        d.due("taken as it is", x.load(3, 2, 0, 0, 2), 2);
        d.due("all 0", x.code(0) + x.code(1), 0);
        d.due("of another LANE", x.sheet(3, 0, 4), 4);
        d.due("no more of the old one", x.item(3, 2, 0, 0), CAST);
        d.says("BAD: also n above 30");
        d.due("31", x.sheet(3, 0, 31), BAD);
        d.due("far above", x.sheet(3, 0, Integer.MAX_VALUE), BAD);
        d.due("SHEET 4", x.sheet(4, 0, 1), BAD);
        d.due("LANE 3", x.sheet(3, 3, 1), BAD);
        for (int far : FAR) {
            d.due("SHEET " + far, x.sheet(far, 0, 1), BAD);
            d.due("LANE " + far, x.sheet(3, far, 1), BAD);
        }
        d.due("SHEET 4 ahead of SIZE", x.sheet(4, 0, -1), BAD);
        d.due("LANE 3 ahead of SIZE", x.sheet(3, 3, -1), BAD);
        d.says("SIZE: n below 0");
        d.due("-1", x.sheet(3, 0, -1), SIZE);
        d.due("far below", x.sheet(3, 0, Integer.MIN_VALUE), SIZE);
        d.due("where there is nothing", x.sheet(0, 0, -1), SIZE);
        d.due("nothing there still", x.drop(0), NULL);
        d.due("the row is as it was", x.drop(3), 4);
    }

    private static void dropPromise(Sentences d) {
        d.in("promise 39");
        OrdersTold x = new OrdersTold();
        x.sheet(0, 0, 30);
        x.sheet(3, 2, 0);
        d.says("A SHEET holds nothing: how many items it had");
        d.due("30", x.drop(0), 30);
        d.due("0", x.drop(3), 0);
        d.due("it holds nothing", x.item(0, 0, 0, 1), NULL);
        d.due("a new row", x.sheet(0, 1, 3), 3);
        d.due("3", x.drop(0), 3);
        d.says("BAD");
        d.due("4", x.drop(4), BAD);
        for (int far : FAR) {
            d.due("far", x.drop(far), BAD);
        }
        d.says("NULL");
        d.due("it is gone", x.drop(0), NULL);
        d.due("at first", x.drop(1), NULL);
    }

    private static void itemPromise(Sentences d) {
        d.in("promise 40");
        OrdersTold x = new OrdersTold();
        d.says("Item i of a SHEET, taken as a row of a LANE, becomes v, its lowest bits: 1");
        int[] told = {0, 63, 127, 128, 255, 256, 257, -1, -256, 32767, 32768, 65535, 65536, 65600, Integer.MIN_VALUE, Integer.MAX_VALUE};
        for (int v : told) {
            int[] due = {(byte) v, (short) v, v};
            for (int lane = 0; lane < 3; lane++) {
                x.sheet(0, lane, 2);
                d.due("v " + v, x.item(0, lane, 1, v), 1);
                int took = x.load(0, lane, 1, 0, 1);
                boolean isBits = due[lane] >= 0 && due[lane] < 256;
                d.due("lane " + lane + " of " + v, took == 1 ? x.code(0) : took, isBits ? due[lane] : NOT);
            }
        }
        d.says("BAD");
        d.due("SHEET 4", x.item(4, 2, 0, 0), BAD);
        d.due("LANE 3", x.item(0, 3, 0, 0), BAD);
        for (int far : FAR) {
            d.due("SHEET " + far, x.item(far, 2, 0, 0), BAD);
            d.due("LANE " + far, x.item(0, far, 0, 0), BAD);
        }
        d.due("ahead of NULL", x.item(1, 3, 0, 0), BAD);
        d.says("NULL");
        d.due("nothing there", x.item(1, 0, 0, 0), NULL);
        d.due("ahead of INDEX", x.item(1, 0, 99, 0), NULL);
        d.says("CAST");
        d.due("another LANE", x.item(0, 0, 0, 0), CAST);
        d.due("ahead of INDEX", x.item(0, 1, 99, 0), CAST);
        d.says("INDEX");
        d.due("the last", x.item(0, 2, 1, 0), 1);
        d.due("behind it", x.item(0, 2, 2, 0), INDEX);
        for (int far : FAR) {
            d.due("far", x.item(0, 2, far, 0), INDEX);
        }
    }
}
