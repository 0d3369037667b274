/** Promises 1 to 9: a new object, the tape, and what is told of a schema. */
public final class TextsTest {
    private static final Checks c = new Checks();

    private static final String RICH = "schema s;type col=enum(red,green);end;type num=integer;where self>0;self<9;end;"
        + "type pick=select(col,num,base);end;type row_1=list[1:?] of num;end;"
        + "entity base abstract;a:integer;b:optional pick;derive d:real=a+1;where a>0;exists(b);end;"
        + "entity mid under base over oneof(low);c:array[2:4] of logical;unique a;a,c;end;"
        + "entity low under mid;e:row_1;inverse users:other for who[1:5];all:other for many[0:?];end;"
        + "entity other;who:low;many:set[0:24] of low;end;"
        + "function twice(x:integer,y:list[0:?] of real):integer;var z:bag[0:3] of pick;return x*2;end;"
        + "rule r;where true;end;end;";

    public static void main(String[] args) {
        newObject();
        feedAndCut();
        schema();
        counts();
        names();
        entities();
        attributes();
        Checks.end("TextsTest");
    }

    private static void newObject() {
        for (int what = 0; what <= 12; what++) {
            Checks.due("count(" + what + ") of a new object", c.house.count(what), 0);
        }
        Checks.due("hand of a new object", c.hand(), "?");
        for (int k = 0; k < 4; k++) {
            Checks.due("slot of a new object", c.house.like(k), 1);
            Checks.due("row of a new object", c.house.back(k), -21);
        }
        Checks.due("fault of a new object", c.house.fault(), 0);
        Checks.due("steps of a new object", c.house.steps(1000), 1000);
        Checks.due("begin of a new object", c.house.commit(), ExpressHouse.NONE);
    }

    private static void feedAndCut() {
        Checks.due("feed", c.house.feed(0x31202020, 0x20202020, 0x20202020, 0x20202020, 0x202b3220), 20);
        Checks.due("count(9)", c.house.count(9), 20);
        Checks.due("the first byte of an argument is the most significant one", c.house.work(), 1);
        Checks.due("1+2", c.hand(), "3");
        Checks.due("the tape is empty then", c.house.count(9), 0);
        Checks.due("cut(0)", c.house.cut(0), 0);
        Checks.due("cut(1) of an empty tape", c.house.cut(1), ExpressHouse.BAD);
        Checks.due("cut(-1)", c.house.cut(-1), ExpressHouse.BAD);
        for (int n = 1; n <= 150; n++) {
            Checks.due("feed " + n, c.house.feed(-1, n, n, n, n), 20 * n);
        }
        Checks.due("feed above 3000", c.house.feed(1, 2, 3, 4, 5), ExpressHouse.FULL);
        Checks.due("the tape stays", c.house.count(9), 3000);
        Checks.due("cut(1)", c.house.cut(1), 2999);
        Checks.due("feed to 3019", c.house.feed(1, 2, 3, 4, 5), ExpressHouse.FULL);
        Checks.due("cut(3000)", c.house.cut(3000), ExpressHouse.BAD);
        Checks.due("cut(19)", c.house.cut(19), 2980);
        Checks.due("feed to 3000", c.house.feed(1, 2, 3, 4, 5), 3000);
        Checks.due("cut(MIN)", c.house.cut(Integer.MIN_VALUE), ExpressHouse.BAD);
        Checks.due("cut all", c.house.cut(3000), 0);
    }

    private static void schema() {
        c.house = new ExpressHouse();
        Checks.due("schema", c.schema(RICH), 4);
        Checks.due("fault", c.house.fault(), 0);
        c.house.steps(7);
        c.set(c.house.make(8), 0, "1");
        c.work("[1,2]");
        c.house.keep(0);
        c.house.take(0);
        c.house.write();
        int output = c.house.count(10);
        c.house.begin();
        c.house.judge(9);
        c.house.judge(10);
        int steps = c.house.count(12);
        Checks.due("a faulty schema", c.schema("schema s;entity"), -25);
        Checks.due("its fault", c.house.fault(), 2);
        Checks.due("the old schema stays", c.house.count(2), 4);
        Checks.due("the population stays", c.house.count(7), 1);
        Checks.due("the hand stays", c.hand(), "L1:1[1,2]");
        Checks.due("the tape is read all the same", c.house.count(9), 0);
        Checks.due("another schema", c.schema("schema t;entity x;end;end;"), 1);
        Checks.due("no instances", c.house.count(7), 0);
        Checks.due("nothing saved", c.house.abort(), ExpressHouse.NONE);
        Checks.due("the hand", c.hand(), "?");
        Checks.due("the slot", c.house.like(0), 1);
        Checks.due("the row", c.house.back(0), -21);
        Checks.due("judged", c.house.judged(0, 0), ExpressHouse.BAD);
        Checks.due("the output stays", c.house.count(10), output);
        Checks.due("the steps stay", c.house.count(12), steps);
        Checks.due("the limit stays", c.house.steps(1000), 7);
        Checks.due("schema without entities", c.schema(" schema\nschema_1 ; end ; \n"), 0);
        c.read("");
        Checks.due("the fault of the latest text", c.house.fault(), 0);
    }

    private static void counts() {
        c.house = new ExpressHouse();
        c.schema(RICH);
        int[] want = {4, 2, 4, 9, 1, 17};
        for (int what = 0; what < want.length; what++) {
            Checks.due("count(" + what + ")", c.house.count(what), want[what]);
        }
        // type num 6, derive 3, where of base 3 and 2, function 3, rule 1
        Checks.due("nodes", c.house.count(6), 18);
        c.house.make(8);
        c.house.make(8);
        c.house.drop(0);
        Checks.due("made", c.house.count(7), 2);
        Checks.due("existing", c.house.count(8), 1);
        c.work("1+2*3");
        Checks.due("steps of the latest run", c.house.count(11), 5);
        c.work("4");
        Checks.due("steps of the latest run", c.house.count(11), 1);
        Checks.due("steps of all runs", c.house.count(12), 6);
        c.tape("abc");
        Checks.due("bytes of the tape", c.house.count(9), 3);
        Checks.due("bytes of the output", c.house.count(10), 0);
        Checks.due("count(13)", c.house.count(13), ExpressHouse.BAD);
        Checks.due("count(-1)", c.house.count(-1), ExpressHouse.BAD);
    }

    private static void names() {
        Checks.due("a type", c.name(0, 3), "row_1");
        Checks.due("an item", c.name(1, 1), "green");
        Checks.due("an entity", c.name(2, 3), "other");
        Checks.due("an attribute", c.name(3, 6), "all");
        Checks.due("a function", c.name(4, 0), "twice");
        Checks.due("sort 5", c.house.name(5, 0, 0), ExpressHouse.BAD);
        Checks.due("sort -1", c.house.name(-1, 0, 0), ExpressHouse.BAD);
        Checks.due("no such type", c.house.name(0, 4, 0), ExpressHouse.BAD);
        Checks.due("no such item", c.house.name(1, -1, 0), ExpressHouse.BAD);
        Checks.due("no such byte", c.house.name(0, 0, 3), ExpressHouse.BAD);
        Checks.due("no such byte", c.house.name(0, 0, -1), ExpressHouse.BAD);
        c.given("entity z23456789_12;end;");
        Checks.due("a name of twelve bytes", c.name(2, 0), "z23456789_12");
    }

    private static void entities() {
        c.house = new ExpressHouse();
        c.schema(RICH);
        int[][] want = {{1, 0, 0, 2, 1, 0, 0, 2}, {0, 1, 1, 1, 0, 0, 2, 0}, {0, 2, 3, 1, 0, 2, 0, 0}, {0, 0, 0, 2, 0, 0, 0, 0}};
        for (int e = 0; e < want.length; e++) {
            for (int what = 0; what < 8; what++) {
                Checks.due("entity(" + e + ", " + what + ")", c.house.entity(e, what), want[e][what]);
            }
        }
        Checks.due("entity(4, 0)", c.house.entity(4, 0), ExpressHouse.BAD);
        Checks.due("entity(-1, 0)", c.house.entity(-1, 0), ExpressHouse.BAD);
        Checks.due("entity(0, 8)", c.house.entity(0, 8), ExpressHouse.BAD);
        Checks.due("entity(0, -1)", c.house.entity(0, -1), ExpressHouse.BAD);
        c.given("entity d under b,a;end;entity c under d;end;entity b under a;end;entity a;end;");
        Checks.due("two named behind under", c.house.entity(0, 1), 12);
        Checks.due("all above", c.house.entity(1, 2), 13);
    }

    private static void attributes() {
        c.house = new ExpressHouse();
        c.schema(RICH);
        int none = ExpressHouse.NONE;
        int[][] want = {{0, 0, 0, none, none, none, 0}, {0, 0, 1, none, none, none, 5}, {0, 1, 0, none, none, none, 1},
            {1, 0, 0, 0, 2, 4, 2}, {2, 0, 0, none, none, none, 6}, {2, 2, 0, 3, 1, 5, 23}, {2, 2, 0, 3, 0, none, 23},
            {3, 0, 0, none, none, none, 22}, {3, 0, 0, 3, 0, 24, 22}};
        for (int a = 0; a < want.length; a++) {
            for (int what = 0; what < 7; what++) {
                Checks.due("attribute(" + a + ", " + what + ")", c.house.attribute(a, what), want[a][what]);
            }
        }
        Checks.due("attribute(9, 0)", c.house.attribute(9, 0), ExpressHouse.BAD);
        Checks.due("attribute(-1, 0)", c.house.attribute(-1, 0), ExpressHouse.BAD);
        Checks.due("attribute(0, 7)", c.house.attribute(0, 7), ExpressHouse.BAD);
        Checks.due("attribute(0, -1)", c.house.attribute(0, -1), ExpressHouse.BAD);
    }
}
