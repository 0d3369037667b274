/** Section 7: the errors of each call, in their order, and that a refused call changes nothing that it must not change. */
public final class RefusedCallsTest {
    private static final int BAD = ExpressHouse.BAD, FULL = ExpressHouse.FULL, NONE = ExpressHouse.NONE, SPENT = ExpressHouse.SPENT;
    private static final int MISSING = -21, NO_INDEX = -22, OTHER_LANE = -23, LANES = -24;
    private static final String SCHEMA = "type k=enum(i,j);end;entity a;x:integer;l:list[0:?] of a;where x>5;end;"
        + "entity b under a;r:real;"
        + "derive d:integer=f(x);end;entity e abstract;end;entity g under a over oneof(h);end;entity h under g;end;"
        + "entity w;m:list[0:?] of integer;end;function f(n:integer):integer;return f(n);end;rule ru;where false;end;";

    /** Something that is done with a house; what it answers. */
    private interface Call {
        long on(Checks c);
    }

    public static void main(String[] args) {
        texts();
        told();
        combinationsAndInstances();
        attributes();
        hands();
        rowsToTakeAndGiveBack();
        elements();
        passes();
        rulesAndFiles();
        savedPopulations();
        faultOfTheLatestText();
        tapeOfEachCall();
        itemsThatFailed();
        Checks.end("RefusedCallsTest");
    }

    /** A house in which each part of the state has something. */
    private static Checks busy() {
        Checks c = new Checks();
        c.given(SCHEMA);
        c.house.make(1);
        c.house.make(3);
        c.house.make(1);
        c.set(0, 0, "5");
        c.set(0, 1, "[#1,#2,#1]");
        c.set(1, 2, "1.5");
        c.house.drop(2);
        c.house.begin();
        c.set(0, 0, "4");
        c.read("#7=b(1,(#7),2.5);#9=a(9,$);");
        c.house.judge(2);
        c.work("[1.5,2.5]");
        c.house.keep(0);
        c.house.take(1);
        c.work("[#0,#1,#3]");
        c.house.keep(1);
        c.house.take(2);
        c.work("[7,8,9,7]");
        c.house.take(3);
        c.work("i");
        c.house.keep(3);
        c.house.write();
        c.house.drop(4);
        c.house.steps(600);
        return c;
    }

    /** All that can be seen of a house, but for fault(), failed(), the tape and the numbers of steps. */
    private static String seen(Checks c) {
        StringBuilder text = new StringBuilder("hand ").append(c.hand());
        for (int what = 0; what <= 10; what++) {
            text.append(what == 9 ? "" : " " + c.house.count(what));
        }
        for (int k = 0; k < 4; k++) {
            text.append(" row ");
            for (int lane = 1; lane <= 5; lane++) {
                for (int i = 0; i < 5; i++) {
                    long element = c.house.item(k, lane, i);
                    text.append(c.house.failed() == 0 ? lane + ":" + element + " " : "");
                }
            }
            text.append(c.house.back(k)).append(" slot");
            for (int other = 0; other < 4; other++) {
                text.append(' ').append(c.house.like(other));
            }
        }
        for (String value : new String[] {"?", "i", "[1.5,2.5]", "[#0,#1,#3]"}) {
            c.work(value);
            for (int k = 0; k < 4; k++) {
                text.append(' ').append(c.house.like(k));
            }
        }
        for (int i = 0; i < 4; i++) {
            text.append(" judged ").append(c.house.judged(i, 0)).append(' ').append(c.house.judged(i, 1));
        }
        for (int n = 6; n < 11; n++) {
            text.append(" told ").append(c.house.told(n));
        }
        text.append(" output ").append(c.output()).append(" limit ").append(c.house.steps(1000)).append(population(c));
        text.append(" abort ").append(c.house.abort()).append(population(c));
        return text.toString();
    }

    private static String population(Checks c) {
        StringBuilder text = new StringBuilder();
        for (int x = 0; x < c.house.count(7); x++) {
            text.append(" #").append(x).append('=').append(c.house.row(x));
            for (int a = 0; a < 3; a++) {
                text.append(' ').append(c.got(x, a));
            }
        }
        return text.toString();
    }

    /** A call is refused with an error, and changes nothing that is seen; before it, something may be done. */
    private static void refused(String what, Call before, Call call, long error) {
        Checks one = busy();
        Checks other = busy();
        before.on(one);
        before.on(other);
        Checks.due(what, call.on(one), error);
        Checks.due("seen behind " + what, seen(one), seen(other));
    }

    private static void refused(String what, Call call, long error) {
        refused(what, c -> 0, call, error);
    }

    private static void texts() {
        refused("feed", c -> {
            c.tape(" ".repeat(2981));
            return 0;
        }, c -> c.house.feed(1, 2, 3, 4, 5), FULL);
        refused("cut(1)", c -> c.house.cut(1), BAD);
        refused("cut(-1)", c -> c.house.cut(-1), BAD);
        String[] faults = {"schema s;%", "schema s;", "schema s;entity k;end;entity k;end;end;", "schema s;entity q;y:zz;end;end;",
            "schema s;type t=list[25:?] of real;end;end;", "schema s;entity q under q;end;end;"};
        int[] places = {9, 9, 29, 20, 21, 16};
        for (int i = 0; i < faults.length; i++) {
            String text = faults[i];
            refused(text, c -> c.schema(text), -10 - places[i]);
        }
        String[] expressions = {"1+$", "1+", "1+zz", "(((((((((1)))))))))"};
        int[] at = {2, 2, 2, 8};
        for (int i = 0; i < expressions.length; i++) {
            String text = expressions[i];
            refused("work " + text, c -> c.work(text), -10 - at[i]);
            refused("set " + text, c -> c.set(0, 0, text), -10 - at[i]);
        }
        refused("work, spent", c -> c.work("f(1)"), SPENT);
        refused("set, spent", c -> c.set(0, 0, "f(1)"), SPENT);
        refused("set, not fitting", c -> c.set(0, 0, "1.5"), NONE);
        refused("set, not fitting", c -> c.set(0, 1, "[1]"), NONE);
    }

    private static void told() {
        for (int what : new int[] {-1, 13, Integer.MIN_VALUE, Integer.MAX_VALUE}) {
            refused("count", c -> c.house.count(what), BAD);
        }
        int[] counts = {1, 2, 6, 5, 1};
        for (int sort = 0; sort < 5; sort++) {
            int s = sort;
            refused("name", c -> c.house.name(s, counts[s], 0), BAD);
            refused("name", c -> c.house.name(s, -1, 0), BAD);
            refused("name", c -> c.house.name(s, 0, 1), BAD);
            refused("name", c -> c.house.name(s, 0, -1), BAD);
            refused("name", c -> c.house.name(s, 0, Integer.MAX_VALUE), BAD);
        }
        refused("name", c -> c.house.name(5, 0, 0), BAD);
        refused("name", c -> c.house.name(-1, 0, 0), BAD);
        int[][] ranges = {{-1, 0}, {6, 0}, {0, -1}, {0, 8}, {12, 0}, {Integer.MIN_VALUE, 0}};
        for (int[] one : ranges) {
            refused("entity", c -> c.house.entity(one[0], one[1]), BAD);
        }
        int[][] others = {{-1, 0}, {5, 0}, {0, -1}, {0, 7}, {40, 0}, {Integer.MAX_VALUE, 0}};
        for (int[] one : others) {
            refused("attribute", c -> c.house.attribute(one[0], one[1]), BAD);
        }
    }

    private static void combinationsAndInstances() {
        for (int row : new int[] {64, -1, Integer.MIN_VALUE, 65}) {
            refused("allowed", c -> c.house.allowed(row), BAD);
            refused("make", c -> c.house.make(row), BAD);
        }
        for (int e : new int[] {-1, 6, 12, Integer.MAX_VALUE}) {
            refused("combinations", c -> c.house.combinations(e), BAD);
        }
        int[][] reasons = {{0, -11}, {2, -12}, {5, -13}, {4, -14}};
        for (int[] one : reasons) {
            refused("make", c -> c.house.make(one[0]), one[1]);
        }
        Call many = c -> {
            while (c.house.make(1) >= 0) {
                c.house.count(7);
            }
            return 0;
        };
        refused("make", many, c -> c.house.make(1), FULL);
        refused("make", many, c -> c.house.make(4), -14);
        refused("make", many, c -> c.house.make(-1), BAD);
        for (int x : new int[] {-1, 2, 4, 5, 40, Integer.MIN_VALUE}) {
            refused("drop", c -> c.house.drop(x), BAD);
            refused("set", c -> c.set(x, 0, "1"), BAD);
            refused("get", c -> c.house.get(x, 0), BAD);
        }
        refused("row", c -> c.house.row(-1), BAD);
        refused("row", c -> c.house.row(5), BAD);
    }

    private static void attributes() {
        for (int a : new int[] {-1, 2, 3, 4, 5, 40}) {
            refused("set of #0", c -> c.set(0, a, "1"), BAD);
            refused("get of #0", c -> c.house.get(0, a), BAD);
        }
        refused("set of a derived one", c -> c.set(1, 3, "1"), BAD);
        refused("get of a derived one", c -> c.house.get(3, 3), SPENT);
        // BAD comes before the faults of the text
        refused("set", c -> c.set(0, 3, "%"), BAD);
        refused("set", c -> c.set(2, 0, "f(1)"), BAD);
    }

    private static void hands() {
        for (int what : new int[] {-1, 5}) {
            refused("hand", c -> c.house.hand(what), BAD);
        }
        for (int what = 1; what <= 4; what++) {
            int w = what;
            refused("hand of an item", c -> c.house.hand(w), NONE);
            refused("hand of nothing", c -> c.work("?"), c -> c.house.hand(w), NONE);
        }
        refused("place of an item", c -> c.house.place(0), BAD);
        refused("place", c -> c.house.back(1), c -> c.house.place(2), BAD);
        refused("place", c -> c.house.back(1), c -> c.house.place(-1), BAD);
        refused("bits", c -> c.house.bits(0), 0);
        refused("bits", c -> c.house.back(1), c -> c.house.bits(2), 0);
        for (int k : new int[] {-1, 4, Integer.MIN_VALUE, Integer.MAX_VALUE}) {
            refused("keep", c -> c.house.keep(k), BAD);
            refused("like", c -> c.house.like(k), BAD);
            refused("take", c -> c.house.take(k), BAD);
            refused("take of nothing", c -> c.work("?"), c -> c.house.take(k), BAD);
            refused("back", c -> c.house.back(k), BAD);
        }
    }

    private static void rowsToTakeAndGiveBack() {
        for (int k = 0; k < 4; k++) {
            int row = k;
            refused("take of nothing", c -> c.work("?"), c -> c.house.take(row), MISSING);
            for (String value : new String[] {"7", "1.5", "true", "i", "#0", "[]", "[1:0]"}) {
                refused("take of " + value, c -> c.work(value), c -> c.house.take(row), OTHER_LANE);
            }
        }
        Checks c = new Checks();
        c.given("entity a;x:array[0:1] of integer;end;");
        c.read("#1=a(($,$));#2=a(($,7));#3=a((7,$));#4=a((7,8));");
        int[] want = {OTHER_LANE, MISSING, MISSING, 2};
        for (int x = 0; x < 4; x++) {
            c.house.get(x, 0);
            Checks.due("take of " + c.hand(), c.house.take(0), want[x]);
            Checks.due("back", c.house.back(0), x < 3 ? MISSING : 2);
        }
        refused("back of a missing row", one -> one.house.back(0), MISSING);
        Checks.due("the row of a list", busy().house.back(2), 3);
    }

    /** "BAD; -21 if the row is missing; -23 if it has another lane; -22" */
    private static void elements() {
        long[][] calls = {{-1, 1, 0, 0, BAD}, {4, 1, 0, 0, BAD}, {3, 0, 0, 0, BAD}, {3, 6, 0, 0, BAD}, {0, 1, 0, 0, MISSING},
            {0, 1, -1, 0, MISSING}, {0, 5, 9, 0, MISSING}, {3, 2, 0, 0, OTHER_LANE}, {3, 5, 9, 0, OTHER_LANE},
            {1, 1, 0, 0, OTHER_LANE}, {2, 4, -1, 0, OTHER_LANE}, {3, 1, 4, 0, NO_INDEX}, {3, 1, -1, 0, NO_INDEX},
            {3, 1, Integer.MIN_VALUE, 0, NO_INDEX}, {3, 1, Integer.MAX_VALUE, 0, NO_INDEX}, {1, 2, 2, 0, NO_INDEX},
            {2, 5, 3, 0, NO_INDEX}};
        for (long[] call : calls) {
            int k = (int) call[0];
            int lane = (int) call[1];
            int i = (int) call[2];
            refused("put(" + k + ", " + lane + ", " + i + ")", c -> c.house.put(k, lane, i, call[3]), call[4]);
            refused("item(" + k + ", " + lane + ", " + i + ")", c -> c.house.item(k, lane, i), 0);
            Checks c = busy();
            c.house.item(k, lane, i);
            Checks.due("failed of item(" + k + ", " + lane + ", " + i + ")", c.house.failed(), call[4]);
        }
        long[][] values = {{3, 3}, {3, -1}, {3, Long.MIN_VALUE}, {3, 1L << 32}, {3, (1L << 32) + 1}, {4, 2}, {4, -1},
            {4, 1L << 32}, {4, Long.MAX_VALUE}, {5, 2}, {5, 4}, {5, 5}, {5, -1}, {5, 40}, {5, 1L << 32}, {5, (1L << 32) + 1},
            {5, Long.MIN_VALUE}};
        for (long[] value : values) {
            for (int k = 0; k < 4; k++) {
                int row = k;
                // the range of an element comes before the rows and their lanes
                refused("put of " + value[1] + " to " + k, c -> c.house.put(row, (int) value[0], 0, value[1]), BAD);
            }
        }
        long[][] fine = {{3, 0}, {3, 1}, {3, 2}, {4, 0}, {4, 1}, {5, 0}, {5, 1}, {5, 3}, {1, Long.MIN_VALUE},
            {2, Long.MAX_VALUE}};
        for (long[] value : fine) {
            refused("put of " + value[1], c -> c.house.put(0, (int) value[0], 0, value[1]), MISSING);
        }
    }

    /** "BAD; -21 if one of the rows is missing; -24; -22 if i, j or n is negative, or i + n or j + n is greater ..." */
    private static void passes() {
        int most = Integer.MAX_VALUE;
        int[][] calls = {{-1, 0, 0, 0, 0, BAD}, {0, 0, -1, 0, 0, BAD}, {4, 0, 3, 0, 0, BAD}, {3, 0, 4, 0, 0, BAD},
            {-1, -1, 0, -1, -1, BAD}, {0, 0, 3, 0, 0, MISSING}, {3, 0, 0, 0, 0, MISSING}, {0, -1, 0, -1, -1, MISSING},
            {0, 9, 1, 9, 9, MISSING}, {3, 0, 1, 0, 0, LANES}, {1, 0, 2, 0, 1, LANES}, {2, -1, 3, -1, -1, LANES},
            {3, 9, 1, 9, 9, LANES}, {3, -1, 3, 0, 0, NO_INDEX}, {3, 0, 3, -1, 0, NO_INDEX}, {3, 0, 3, 0, -1, NO_INDEX},
            {3, 0, 3, 0, 5, NO_INDEX}, {3, 1, 3, 0, 4, NO_INDEX}, {3, 0, 3, 1, 4, NO_INDEX}, {3, 5, 3, 0, 0, NO_INDEX},
            {3, 0, 3, 5, 0, NO_INDEX}, {3, 4, 3, 0, 1, NO_INDEX}, {3, 0, 3, 4, 1, NO_INDEX}, {3, most, 3, 0, most, NO_INDEX},
            {3, 0, 3, most, most, NO_INDEX}, {3, 1, 3, 1, most, NO_INDEX}, {3, most, 3, 0, 1, NO_INDEX},
            {3, 0, 3, most, 1, NO_INDEX}, {3, Integer.MIN_VALUE, 3, 0, Integer.MIN_VALUE, NO_INDEX},
            {3, -1, 3, -1, 1, NO_INDEX}};
        for (int[] p : calls) {
            refused("pass " + java.util.Arrays.toString(p), c -> c.house.pass(p[0], p[1], p[2], p[3], p[4]), p[5]);
        }
        refused("pass of none", c -> c.house.pass(3, 4, 3, 4, 0), 1);
        refused("pass of all", c -> c.house.pass(3, 0, 3, 0, 4), 1);
        refused("pass of a like one", c -> c.house.pass(3, 0, 3, 3, 1), 1);
    }

    private static void rulesAndFiles() {
        for (int r : new int[] {-1, 20, Integer.MAX_VALUE}) {
            refused("rule", c -> c.house.rule(r, 0), BAD);
            refused("rule", c -> c.house.rule(r, 1), BAD);
            refused("judge", c -> c.house.judge(r), BAD);
        }
        refused("rule", c -> c.house.rule(0, 2), BAD);
        refused("rule", c -> c.house.rule(0, -1), BAD);
        int[][] positions = {{-1, 0}, {3, 0}, {0, 2}, {0, -1}, {40, 1}};
        for (int[] one : positions) {
            refused("judged", c -> c.house.judged(one[0], one[1]), BAD);
        }
        refused("write", c -> {
            for (int x = 5; x < 40; x++) {
                c.house.make(32);
                c.set(x, 4, "[-999999999:24]");
            }
            return 0;
        }, c -> c.house.write(), FULL);
        refused("out", c -> c.house.out(-1), BAD);
        refused("out", c -> c.house.out(c.house.count(10)), BAD);
        String[] files = {"#1=a(1,$);#2=a(1,$);#3=a(1,$);#4=a(1,$);#5=b(1,$,$);#6=a(1);", "#1=a(1,$);#2=a(",
            "#1=a(1,$);#2=a(1.5,$);", "#1=a(1,$);#1=a(1,$);", "#1=a(1,(#1));#2=zz();", "x"};
        int[] places = {58, 15, 15, 10, 16, 0};
        for (int i = 0; i < files.length; i++) {
            String file = files[i];
            refused("read " + file, c -> c.read(file), -10 - places[i]);
        }
        refused("told", c -> c.house.told(1), NONE);
        refused("told", c -> c.house.told(-1), NONE);
    }

    private static void savedPopulations() {
        refused("begin", c -> c.house.begin(), NONE);
        refused("commit", c -> c.house.commit(), c -> c.house.commit(), NONE);
        refused("abort", c -> c.house.commit(), c -> c.house.abort(), NONE);
        for (int n : new int[] {0, 1001, -1, Integer.MIN_VALUE, Integer.MAX_VALUE}) {
            refused("steps", c -> c.house.steps(n), BAD);
        }
    }

    /** Promise 5: "the number of the fault of the latest text that was read from the tape; 0 if it had none" */
    private static void faultOfTheLatestText() {
        Checks c = new Checks();
        Checks.due("no text", c.house.fault(), 0);
        c.given("entity a;x:integer;end;function f():integer;while true;end;end;");
        c.house.make(1);
        String[] schemas = {"schema s;%", "schema s;", "schema abs;entity abs;end;end;", "schema s;entity a;x:z;end;end;",
            "schema s;type t=set[25:?] of a;end;end;", "schema s;entity a under a;end;end;"};
        for (int i = 0; i < schemas.length; i++) {
            c.schema(schemas[i]);
            Checks.due("fault of " + schemas[i], c.house.fault(), i + 1);
            c.tape("1");
            c.house.set(9, 9);
            Checks.due("BAD reads no text", c.house.fault(), i + 1);
            c.house.feed(0, 0, 0, 0, 0);
            c.house.cut(c.house.count(9));
            Checks.due("nor does the tape", c.house.fault(), i + 1);
            c.work("1");
            Checks.due("no fault", c.house.fault(), 0);
            c.work("zz");
            Checks.due("fault of work", c.house.fault(), 4);
            Checks.due("a run that is spent", c.work("f()"), SPENT);
            Checks.due("has no fault", c.house.fault(), 0);
            c.set(0, 0, "1 2");
            Checks.due("fault of set", c.house.fault(), 2);
            Checks.due("a value that does not fit", c.set(0, 0, "true"), NONE);
            Checks.due("has no fault", c.house.fault(), 0);
            c.read("#1");
            Checks.due("fault of read", c.house.fault(), 1);
            c.read("#1=b();");
            Checks.due("fault of read", c.house.fault(), 2);
            c.read("");
            Checks.due("no fault", c.house.fault(), 0);
        }
        c.work("(");
        c.schema("schema s;end;");
        Checks.due("no fault", c.house.fault(), 0);
    }

    /** "The tape is empty after each call that reads it, unless it returns BAD." */
    private static void tapeOfEachCall() {
        String[] texts = {"schema s;entity a;x:integer;end;function f():integer;while true;end;end;end;", "schema s;", "1", "1+",
            "f()", "%"};
        for (String text : texts) {
            Checks c = new Checks();
            c.given("entity a;x:integer;end;function f():integer;while true;end;end;");
            c.house.make(1);
            Call[] calls = {one -> one.house.schema(), one -> one.house.work(), one -> one.house.set(0, 0),
                one -> one.house.read()};
            for (Call call : calls) {
                c.tape(text);
                Checks.due("the tape", c.house.count(9), text.length());
                call.on(c);
                Checks.due("the tape is empty behind " + text, c.house.count(9), 0);
                Checks.due("cut", c.house.cut(0), 0);
                c.house.make(1);
            }
            c.tape(text);
            Checks.due("set", c.house.set(-1, 0), BAD);
            Checks.due("the tape stays", c.house.count(9), text.length());
            c.house.count(0);
            c.house.judge(0);
            c.house.write();
            c.house.begin();
            c.house.abort();
            Checks.due("no other call reads it", c.house.count(9), text.length());
        }
        Checks c = new Checks();
        c.given("entity a;x:integer;end;");
        Checks.due("read", c.read("#1=a(1);"), 1);
        Checks.due("the tape is empty", c.house.count(9), 0);
        Checks.due("read", c.read("#1=a(1.5);"), -15);
        Checks.due("the tape is empty", c.house.count(9), 0);
        Checks.due("set, not fitting", c.set(0, 0, "1.5"), NONE);
        Checks.due("the tape is empty", c.house.count(9), 0);
        Checks.due("schema", c.schema("schema s;end;"), 0);
        Checks.due("the tape is empty", c.house.count(9), 0);
    }

    /** Promise 25: "0 if it had none or there was no such call" */
    private static void itemsThatFailed() {
        Checks c = new Checks();
        Checks.due("no call", c.house.failed(), 0);
        c.house.item(0, 1, 0);
        Checks.due("a missing row", c.house.failed(), MISSING);
        c.house.put(9, 9, 9, 9);
        c.house.pass(9, 9, 9, 9, 9);
        c.house.back(9);
        Checks.due("other calls do not matter", c.house.failed(), MISSING);
        c.work("[5,6]");
        c.house.take(0);
        Checks.due("nor does take()", c.house.failed(), MISSING);
        Checks.due("an element", c.house.item(0, 1, 1), 6);
        Checks.due("no error", c.house.failed(), 0);
        c.house.item(0, 1, 2);
        Checks.due("no such index", c.house.failed(), NO_INDEX);
        c.house.item(0, 2, 2);
        Checks.due("another lane", c.house.failed(), OTHER_LANE);
        c.house.item(4, 1, 0);
        Checks.due("no such row", c.house.failed(), BAD);
        c.house.item(0, 1, 0);
        Checks.due("no error", c.house.failed(), 0);
    }
}
