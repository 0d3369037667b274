/** Promises 23 to 28: plain rows. */
public final class RowsTest {
    private static final Checks c = new Checks();
    private static final int MISSING = -21, NO_INDEX = -22, LANE = -23, LANES = -24;

    public static void main(String[] args) {
        c.given("type k=enum(red,blue);end;entity a;ar:array[0:1] of integer;end;");
        c.house.make(1);
        c.house.make(1);
        take();
        item();
        put();
        pass();
        back();
        Checks.end("RowsTest");
    }

    private static void rowIs(int k, String want) {
        c.house.back(k);
        Checks.due("row " + k, c.hand(), want);
    }

    private static void take() {
        Checks.due("take(4)", c.house.take(4), ExpressHouse.BAD);
        Checks.due("take(-1)", c.house.take(-1), ExpressHouse.BAD);
        Checks.due("take of nothing", c.house.take(0), MISSING);
        c.work("5");
        Checks.due("take of a whole", c.house.take(0), LANE);
        c.work("[]");
        Checks.due("take of lane 0", c.house.take(0), LANE);
        c.read("#1=a(($,$));#2=a(($,1));");
        c.house.get(2, 0);
        Checks.due("take of nothing but nothing", c.house.take(0), LANE);
        c.house.get(3, 0);
        Checks.due("take with nothing in a place", c.house.take(0), MISSING);
        Checks.due("the row is still missing", c.house.back(0), MISSING);
        c.work("[4,5,6]");
        Checks.due("take", c.house.take(0), 3);
        c.work("[1.5]");
        Checks.due("take in place of what it has", c.house.take(0), 1);
        rowIs(0, "L1:2[1.5]");
        c.work("query(q<*[true]|false)");
        Checks.due("take of no places", c.house.take(1), 0);
        rowIs(1, "L1:3[]");
        c.work("a");
        Checks.due("take of a set", c.house.take(2), 4);
        rowIs(2, "L1:5[#0,#1,#2,#3]");
        c.work("5");
        Checks.due("a failed take", c.house.take(2), LANE);
        rowIs(2, "L1:5[#0,#1,#2,#3]");
    }

    private static void itemIs(int k, int lane, int i, long want, int failed) {
        Checks.due("item(" + k + ", " + lane + ", " + i + ")", c.house.item(k, lane, i), want);
        Checks.due("failed()", c.house.failed(), failed);
    }

    private static void item() {
        Checks.due("failed() without a call", c.house.failed(), 0);
        c.work("[7,8]");
        c.house.take(0);
        itemIs(0, 1, 1, 8, 0);
        itemIs(0, 1, 2, 0, NO_INDEX);
        itemIs(0, 1, -1, 0, NO_INDEX);
        itemIs(0, 1, Integer.MIN_VALUE, 0, NO_INDEX);
        itemIs(0, 2, 9, 0, LANE);
        itemIs(3, 1, 0, 0, MISSING);
        itemIs(3, 0, 0, 0, ExpressHouse.BAD);
        itemIs(0, 6, 0, 0, ExpressHouse.BAD);
        itemIs(4, 1, 0, 0, ExpressHouse.BAD);
        itemIs(-1, 1, 0, 0, ExpressHouse.BAD);
        itemIs(0, 1, 0, 7, 0);
    }

    private static void putIs(int k, int lane, int i, long v, int want) {
        Checks.due("put(" + k + ", " + lane + ", " + i + ", " + v + ")", c.house.put(k, lane, i, v), want);
    }

    private static void put() {
        c.work("[7,8]");
        c.house.take(0);
        putIs(0, 1, 1, -3, 1);
        rowIs(0, "L1:1[7,-3]");
        putIs(0, 1, 0, (1L << 40) + 5, 1);
        putIs(0, 1, 1, 0x80000000L, 1);
        rowIs(0, "L1:1[5,-2147483648]");
        putIs(0, 1, 2, 1, NO_INDEX);
        putIs(0, 1, -1, 1, NO_INDEX);
        putIs(0, 2, 0, 1, LANE);
        putIs(3, 1, 0, 1, MISSING);
        putIs(4, 1, 0, 1, ExpressHouse.BAD);
        putIs(-1, 1, 0, 1, ExpressHouse.BAD);
        putIs(0, 0, 0, 1, ExpressHouse.BAD);
        putIs(0, 6, 0, 1, ExpressHouse.BAD);
        putIs(3, 3, 0, 3, ExpressHouse.BAD);
        putIs(3, 3, 0, -1, ExpressHouse.BAD);
        putIs(3, 3, 0, 2, MISSING);
        putIs(3, 4, 0, 2, ExpressHouse.BAD);
        putIs(3, 4, 0, -1, ExpressHouse.BAD);
        putIs(3, 4, 0, 1, MISSING);
        putIs(3, 5, 0, 4, ExpressHouse.BAD);
        putIs(3, 5, 0, 1L << 32, ExpressHouse.BAD);
        putIs(3, 5, 0, 1, MISSING);
        c.house.drop(3);
        putIs(3, 5, 0, 3, ExpressHouse.BAD);
        c.work("[1.5,2.5]");
        c.house.take(1);
        putIs(1, 2, 0, Double.doubleToLongBits(-0.5), 1);
        putIs(1, 2, 1, 0x7ff0000000000001L, 1);
        rowIs(1, "L1:2[-0.5,NaN]");
        Checks.due("the bits of a NaN", c.house.item(1, 2, 1), 0x7ff8000000000000L);
        c.work("[true]");
        c.house.take(1);
        putIs(1, 3, 0, 0, 1);
        rowIs(1, "L1:3[f]");
        c.work("[red]");
        c.house.take(1);
        putIs(1, 4, 0, 1, 1);
        putIs(1, 4, 0, 0, 1);
        rowIs(1, "L1:4[i0]");
        putIs(1, 4, 0, 1, 1);
        rowIs(1, "L1:4[i1]");
        c.work("[#0]");
        c.house.take(1);
        putIs(1, 5, 0, 1, 1);
        putIs(1, 5, 0, 0, 1);
        rowIs(1, "L1:5[#0]");
        putIs(1, 5, 0, 2, 1);
        rowIs(1, "L1:5[#2]");
        c.house.keep(0);
        putIs(1, 5, 0, 1, 1);
        Checks.due("a list that was made of a row stays", c.hand(), "L1:5[#2]");
    }

    private static void passIs(int k, int i, int m, int j, int n, int want) {
        Checks.due("pass(" + k + ", " + i + ", " + m + ", " + j + ", " + n + ")", c.house.pass(k, i, m, j, n), want);
    }

    private static void pass() {
        c.work("[1,2,3,4]");
        c.house.take(0);
        c.work("[8,9]");
        c.house.take(1);
        c.work("[1.5]");
        c.house.take(2);
        passIs(0, 1, 1, 0, 2, 1);
        rowIs(1, "L1:1[2,3]");
        rowIs(0, "L1:1[1,2,3,4]");
        passIs(0, 0, 0, 1, 3, 1);
        rowIs(0, "L1:1[1,1,2,3]");
        passIs(0, 1, 0, 0, 3, 1);
        rowIs(0, "L1:1[1,2,3,3]");
        passIs(0, 4, 1, 2, 0, 1);
        passIs(0, 5, 1, 0, 0, NO_INDEX);
        passIs(0, 0, 1, 3, 0, NO_INDEX);
        passIs(0, 3, 1, 0, 2, NO_INDEX);
        passIs(0, 0, 1, 1, 2, NO_INDEX);
        passIs(0, -1, 1, 0, 1, NO_INDEX);
        passIs(0, 0, 1, -1, 1, NO_INDEX);
        passIs(0, 0, 1, 0, -1, NO_INDEX);
        passIs(0, 1, 1, 0, Integer.MAX_VALUE, NO_INDEX);
        passIs(0, Integer.MAX_VALUE, 1, 0, 1, NO_INDEX);
        passIs(0, -9, 2, -9, -9, LANES);
        passIs(0, -9, 3, -9, -9, MISSING);
        passIs(3, 0, 0, 0, 0, MISSING);
        passIs(4, 0, 0, 0, 0, ExpressHouse.BAD);
        passIs(0, 0, 4, 0, 0, ExpressHouse.BAD);
        passIs(-1, 0, 3, 0, 0, ExpressHouse.BAD);
        passIs(3, 0, -1, 0, 0, ExpressHouse.BAD);
    }

    private static void back() {
        Checks.due("back(4)", c.house.back(4), ExpressHouse.BAD);
        Checks.due("back(-1)", c.house.back(-1), ExpressHouse.BAD);
        Checks.due("back(3)", c.house.back(3), MISSING);
        c.work("1");
        Checks.due("back of a missing row changes nothing", c.house.back(3), MISSING);
        Checks.due("the hand", c.hand(), "1");
        Checks.due("back(2)", c.house.back(2), 1);
        Checks.due("the hand", c.hand(), "L1:2[1.5]");
    }
}
