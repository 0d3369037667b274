/** Promises 18 to 22: the hand and the slots. */
public final class HandTest {
    private static final Checks c = new Checks();

    public static void main(String[] args) {
        properties();
        bits();
        places();
        slots();
        Checks.end("HandTest");
    }

    private static void properties() {
        int none = ExpressHouse.NONE;
        String[] exps = {"?", "5", "2.5", "true", "red", "#0", "[1.5:3]", "a", "#0.ar", "usedin(#0)", "[]"};
        int[][] want = {{0, none, none, none, none}, {1, none, none, none, none}, {2, none, none, none, none},
            {3, none, none, none, none}, {4, none, none, none, none}, {5, none, none, none, none},
            {6, 1, 1, 3, 2}, {6, 3, 1, 1, 5}, {6, 0, 3, 2, 1}, {6, 2, 1, 0, 5}, {6, 1, 1, 0, 0}};
        c.given("type k=enum(red,blue);end;entity a;ar:array[3:4] of integer;end;");
        c.house.make(1);
        c.set(0, 0, "[1,2]");
        for (int i = 0; i < exps.length; i++) {
            Checks.due("work " + exps[i], c.work(exps[i]), want[i][0]);
            for (int what = 0; what <= 4; what++) {
                Checks.due("hand(" + what + ") of " + exps[i], c.house.hand(what), want[i][what]);
            }
            Checks.due("hand(5)", c.house.hand(5), ExpressHouse.BAD);
            Checks.due("hand(-1)", c.house.hand(-1), ExpressHouse.BAD);
        }
    }

    private static void bitsAre(String exp, int i, long want) {
        c.work(exp);
        Checks.due("bits(" + i + ") of " + exp, c.house.bits(i), want);
    }

    private static void bits() {
        int hand = ExpressHouse.NONE;
        bitsAre("-7", hand, -7);
        bitsAre("2.5", hand, Double.doubleToLongBits(2.5));
        bitsAre("-0.0", hand, Long.MIN_VALUE);
        bitsAre("true", hand, 2);
        bitsAre("unknown", hand, 1);
        bitsAre("blue", hand, 1);
        bitsAre("#0", hand, 0);
        bitsAre("?", hand, 0);
        bitsAre("[1]", hand, 0);
        bitsAre("[4,5]", 0, 4);
        bitsAre("[4,5]", 1, 5);
        bitsAre("[4,5]", 2, 0);
        bitsAre("[4,5]", -1, 0);
        bitsAre("[4,5]", Integer.MIN_VALUE, 0);
        bitsAre("[4,5]", Integer.MAX_VALUE, 0);
        bitsAre("4", 0, 0);
        bitsAre("[1.5]", 0, Double.doubleToLongBits(1.5));
        bitsAre("#0.ar", 1, 2);
    }

    private static void places() {
        c.work("[1.5,2.5]");
        Checks.due("place(0)", c.house.place(0), 2);
        Checks.due("place(1)", c.house.place(1), 2);
        Checks.due("place(2)", c.house.place(2), ExpressHouse.BAD);
        Checks.due("place(-1)", c.house.place(-1), ExpressHouse.BAD);
        c.work("3");
        Checks.due("place(0) of a whole", c.house.place(0), ExpressHouse.BAD);
        c.read("#1=a(($,7));");
        c.house.get(1, 0);
        Checks.due("place with nothing", c.house.place(0), 0);
        Checks.due("bits of nothing", c.house.bits(0), 0);
        Checks.due("place with a value", c.house.place(1), 1);
        Checks.due("bits of a value", c.house.bits(1), 7);
    }

    private static void slots() {
        c.given("entity a;x:integer;end;");
        Checks.due("keep(4)", c.house.keep(4), ExpressHouse.BAD);
        Checks.due("keep(-1)", c.house.keep(-1), ExpressHouse.BAD);
        Checks.due("like(4)", c.house.like(4), ExpressHouse.BAD);
        Checks.due("like(-1)", c.house.like(-1), ExpressHouse.BAD);
        c.work("[1,2]");
        Checks.due("keep", c.house.keep(3), 6);
        Checks.due("like itself", c.house.like(3), 1);
        Checks.due("like nothing", c.house.like(0), 0);
        c.work("[1.0,2.0]");
        Checks.due("like as doubles", c.house.like(3), 1);
        c.work("[2,1]");
        Checks.due("another order", c.house.like(3), 0);
        c.work("1");
        Checks.due("a whole", c.house.like(3), 0);
        Checks.due("keep", c.house.keep(0), 1);
        c.work("0/0");
        c.house.keep(1);
        Checks.due("a NaN is alike to nothing", c.house.like(1), 0);
        c.work("unknown");
        c.house.keep(1);
        Checks.due("unknown is alike", c.house.like(1), 1);
        c.house.make(1);
        c.house.make(1);
        c.work("#0");
        c.house.keep(2);
        c.work("#1");
        Checks.due("instances with alike attributes", c.house.like(2), 1);
        c.set(1, 0, "5");
        Checks.due("instances with other attributes", c.house.like(2), 0);
        c.set(1, 0, "?");
        Checks.due("alike again", c.house.like(2), 1);
        c.house.drop(0);
        Checks.due("a dropped one", c.house.like(2), 0);
        c.house.keep(2);
        c.house.drop(1);
        Checks.due("the same dropped one", c.house.like(2), 1);
        Checks.due("the hand keeps it", c.hand(), "#1");
    }
}
