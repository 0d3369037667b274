/** Section 5 and promises 12 to 16 and 36 to 38: each sentence of them that names a boundary of the population. */
public final class PopulationLimitsTest {
    private static final Checks c = new Checks();

    public static void main(String[] args) {
        fortyInstances();
        orderOfErrorsOfMake();
        rangesOfInstances();
        rangesOfAttributes();
        fortyAttributes();
        droppedInstances();
        droppedFromValues();
        droppedAndKept();
        settingWhatFits();
        gettingValues();
        restoredCombinations();
        restoredValues();
        savedOnlyOnce();
        handsAfterAbort();
        newOnesAreEmpty();
        valuesThatWereNeverTheirs();
        Checks.end("PopulationLimitsTest");
    }

    private static void given(String parts, int... rows) {
        c.given(parts);
        for (int row : rows) {
            c.house.make(row);
        }
    }

    /** "Instances are numbered from 0 as they are made, at most 40." */
    private static void fortyInstances() {
        given("entity e;end;entity f under e;end;");
        for (int x = 0; x < 40; x++) {
            Checks.due("made", c.house.count(7), x);
            Checks.due("make", c.house.make(x % 2 == 0 ? 1 : 3), x);
        }
        Checks.due("the 41st", c.house.make(1), ExpressHouse.FULL);
        Checks.due("made", c.house.count(7), 40);
        for (int x = 0; x < 40; x++) {
            Checks.due("row", c.house.row(x), x % 2 == 0 ? 1 : 3);
        }
        Checks.due("row(40)", c.house.row(40), ExpressHouse.BAD);
        for (int x = 0; x < 40; x++) {
            Checks.due("drop", c.house.drop(x), 1);
            Checks.due("existing", c.house.count(8), 39 - x);
            Checks.due("made", c.house.count(7), 40);
            Checks.due("row", c.house.row(x), 0);
        }
        Checks.due("a number is never given again", c.house.make(1), ExpressHouse.FULL);
        Checks.due("a file of one more", c.readFault("#1=e();"), "2@0");
        Checks.due("a file of none", c.readFault(""), "fine");
    }

    /** Promise 12: "BAD as for allowed(); -10 minus the reason (-11 to -15) if the combination is not allowed; FULL" */
    private static void orderOfErrorsOfMake() {
        given("entity a;end;entity b abstract;end;entity d under a over oneof(e,f);end;entity e under d;end;entity f under d;end;");
        int[][] calls = {{-1, -1}, {32, -1}, {Integer.MIN_VALUE, -1}, {0, -11}, {4, -12}, {3, -13}, {2, -14}, {29, -15}};
        for (int times = 0; times < 2; times++) {
            for (int[] call : calls) {
                Checks.due("make(" + call[0] + ")", c.house.make(call[0]), call[1]);
            }
            for (int x = 0; times == 0 && x < 40; x++) {
                c.house.make(1);
            }
        }
        Checks.due("make(1)", c.house.make(1), ExpressHouse.FULL);
    }

    private static void rangesOfInstances() {
        given("entity e;x:integer;end;", 1, 1, 1);
        c.house.drop(1);
        int[] bad = {-1, 3, 40, 41, Integer.MIN_VALUE, Integer.MAX_VALUE, ExpressHouse.NONE};
        for (int x : bad) {
            Checks.due("row", c.house.row(x), ExpressHouse.BAD);
            Checks.due("drop", c.house.drop(x), ExpressHouse.BAD);
            Checks.due("get", c.house.get(x, 0), ExpressHouse.BAD);
            Checks.due("set", c.set(x, 0, "1"), ExpressHouse.BAD);
        }
        Checks.due("row of a dropped one", c.house.row(1), 0);
        Checks.due("drop of a dropped one", c.house.drop(1), ExpressHouse.BAD);
        Checks.due("get of a dropped one", c.house.get(1, 0), ExpressHouse.BAD);
        Checks.due("set of a dropped one", c.set(1, 0, "1"), ExpressHouse.BAD);
        Checks.due("the others", c.house.row(2), 1);
        Checks.due("set of another", c.set(2, 0, "1"), 1);
        Checks.due("get of another", c.house.get(2, 0), 1);
    }

    /** "an explicit attribute of an entity of its combination", "an attribute of an entity of its combination" */
    private static void rangesOfAttributes() {
        given("entity e;a:integer;derive b:integer=1;inverse d:g for f[0:?];end;"
            + "entity g under e;f:e;h:integer;derive i:integer=2;inverse j:g for f[0:?];end;", 1, 3);
        String[] kindsOfE = {"0", "1", "6", "-1", "-1", "-1", "-1"};
        String[] kindsOfG = {"0", "1", "6", "0", "0", "1", "6"};
        boolean[] explicit = {true, false, false, true, true, false, false};
        for (int a = 0; a < 7; a++) {
            Checks.due("get(0, " + a + ")", "" + c.house.get(0, a), kindsOfE[a]);
            Checks.due("get(1, " + a + ")", "" + c.house.get(1, a), kindsOfG[a]);
            Checks.due("set(0, " + a + ")", c.set(0, a, "?"), explicit[a] && a == 0 ? 0 : ExpressHouse.BAD);
            Checks.due("set(1, " + a + ")", c.set(1, a, "?"), explicit[a] ? 0 : ExpressHouse.BAD);
        }
        for (int a : new int[] {-1, 7, 40, Integer.MIN_VALUE, Integer.MAX_VALUE}) {
            Checks.due("get(1, " + a + ")", c.house.get(1, a), ExpressHouse.BAD);
            Checks.due("set(1, " + a + ")", c.set(1, a, "?"), ExpressHouse.BAD);
        }
    }

    /** The last of forty attributes of the last of forty instances. */
    private static void fortyAttributes() {
        given("entity e;" + Checks.repeated("a@:e;", 40) + "end;");
        for (int x = 0; x < 40; x++) {
            c.house.make(1);
        }
        Checks.due("set", c.set(39, 39, "#38"), 5);
        Checks.due("set", c.set(39, 0, "#38"), 5);
        Checks.due("get", c.got(39, 39), "#38");
        Checks.due("the neighbour", c.got(39, 38), "?");
        Checks.due("usedin", c.value("usedin(#38)"), "B1:5[#39,#39]");
        Checks.due("member", c.value("#39.a39.a39"), "?");
        Checks.due("set", c.set(0, 39, "#39"), 5);
        Checks.due("get", c.got(1, 0), "?");
        Checks.due("usedin", c.value("usedin(#39)"), "B1:5[#0]");
        Checks.due("alike", c.value("#0=#1"), "f");
        Checks.due("alike", c.value("#1=#2"), "t");
        c.house.begin();
        c.set(39, 39, "#0");
        c.house.drop(38);
        Checks.due("dropped", c.got(39, 0), "?");
        Checks.due("not dropped", c.got(39, 39), "#0");
        c.house.abort();
        Checks.due("restored", c.got(39, 39), "#38");
        c.house.drop(38);
        Checks.due("dropped", c.got(39, 39), "?");
        c.house.drop(39);
        Checks.due("dropped", c.got(0, 39), "?");
    }

    /** "An instance that was dropped does not exist any more, but keeps its number; its combination is 0 then." */
    private static void droppedInstances() {
        given("entity e;p:e;q:integer;inverse i:e for p[0:?];unique q;where q>0;end;", 1, 1, 1);
        for (int x = 0; x < 3; x++) {
            c.set(x, 0, "#" + (x + 1) % 3);
            c.set(x, 1, "7");
        }
        c.house.drop(0);
        Checks.due("the extent", c.value("e"), "S1:5[#1,#2]");
        Checks.due("it", c.value("#0"), "?");
        Checks.due("inverse", c.got(1, 2), "S1:5[]");
        Checks.due("usedin", c.value("usedin(#1)"), "B1:5[]");
        Checks.due("what had it", c.got(2, 0), "?");
        Checks.due("existing", c.house.count(8), 2);
        Checks.due("made", c.house.count(7), 3);
        Checks.due("unique", c.house.judge(1), 0);
        Checks.due("judged", c.house.judged(0, 0), 2);
        Checks.due("one only", c.house.judged(1, 0), ExpressHouse.BAD);
        c.house.drop(2);
        Checks.due("unique", c.house.judge(1), 1);
        Checks.due("the next number", c.house.make(1), 3);
        c.house.write();
        Checks.due("the file", c.output(), "#1=e($,7);#3=e($,$);");
    }

    /** "in an aggregate a place of an array becomes nothing, and a place of a list, bag or set is removed" */
    private static void droppedFromValues() {
        given("type s=select(e,n);end;type n=integer;end;entity e;x:s;a:array[3:6] of s;l:list[0:?] of e;b:bag[0:?] of e;"
            + "s1:set[0:?] of s;"
            + "i:list[0:?] of n;end;", 1, 1, 1);
        c.set(0, 0, "#1");
        c.set(0, 1, "[#1,#2,#1,#0]");
        c.set(0, 2, "[#1,#1,#2,#1,#0,#1]");
        c.set(0, 3, "[#2,#1,#1]");
        c.set(0, 4, "[#1]");
        c.set(0, 5, "[1,1,2]");
        c.set(2, 0, "1");
        c.set(2, 1, "[1,1,1,1]");
        c.set(2, 2, "[#1:24]");
        c.house.drop(1);
        Checks.due("an attribute", c.got(0, 0), "?");
        Checks.due("an array", c.got(0, 1), "A3:5[?,#2,?,#0]");
        Checks.due("a list", c.got(0, 2), "L1:5[#2,#0]");
        Checks.due("a bag", c.got(0, 3), "B1:5[#2]");
        Checks.due("a set", c.got(0, 4), "S1:5[]");
        Checks.due("integers", c.got(0, 5), "L1:1[1,1,2]");
        Checks.due("an integer", c.got(2, 0), "1");
        Checks.due("an array of integers", c.got(2, 1), "A3:1[1,1,1,1]");
        Checks.due("a list of 24", c.got(2, 2), "L1:5[]");
        c.house.drop(2);
        Checks.due("an array", c.got(0, 1), "A3:5[?,?,?,#0]");
        Checks.due("a list", c.got(0, 2), "L1:5[#0]");
        Checks.due("a bag", c.got(0, 3), "B1:5[]");
    }

    /** "The hand, the slots and the plain rows keep it." */
    private static void droppedAndKept() {
        given("entity e;p:list[0:?] of e;end;", 1, 1);
        c.work("[#1,#0]");
        c.house.take(0);
        c.house.keep(0);
        c.house.drop(1);
        Checks.due("the hand", c.hand(), "L1:5[#1,#0]");
        Checks.due("the slot", c.house.like(0), 1);
        Checks.due("the row", c.house.item(0, 5, 0), 1);
        c.work("1");
        Checks.due("the row", c.house.back(0), 2);
        Checks.due("the row", c.hand(), "L1:5[#1,#0]");
        Checks.due("the slot", c.house.like(0), 1);
        Checks.due("put", c.house.put(0, 5, 1, 1), ExpressHouse.BAD);
        Checks.due("put", c.house.put(0, 5, 1, 0), 1);
        Checks.due("pass", c.house.pass(0, 0, 0, 1, 1), 1);
        c.house.back(0);
        Checks.due("the row", c.hand(), "L1:5[#1,#1]");
    }

    /** Promise 15: "Returns the kind of the value, as converted" */
    private static void settingWhatFits() {
        given("type s=select(n,e);end;type n=integer;end;type k=enum(i);end;entity e;a:real;b:integer;d:logical;f:k;g:e;"
            + "h:set[0:?] of integer;j:s;end;", 1);
        String[][] calls = {{"0", "1", "2"}, {"0", "1.5", "2"}, {"1", "1", "1"}, {"1", "1.0", "-3"}, {"2", "true", "3"},
            {"3", "i", "4"}, {"4", "#0", "5"}, {"4", "#1", "0"}, {"5", "[1]", "6"}, {"6", "1", "1"}, {"6", "#0", "5"},
            {"6", "1.0", "-3"}, {"0", "?", "0"}};
        for (String[] call : calls) {
            Checks.due("set " + call[1], c.set(0, Integer.parseInt(call[0]), call[1]), Integer.parseInt(call[2]));
        }
        c.work("42");
        Checks.due("set", c.set(0, 1, "7"), 1);
        Checks.due("the hand stays", c.hand(), "42");
    }

    private static void gettingValues() {
        given("type k=enum(i);end;entity e;a:real;d:logical;f:k;g:e;h:set[0:?] of integer;derive m:integer=5;o:integer=5.5;"
            + "p:set[0:?] of integer=[1,1];"
            + "q:e=self;r:logical=self=g;inverse n:e for g[0:?];end;", 1, 1);
        String[] exps = {"1", "true", "i", "#1", "[1]"};
        for (int a = 0; a < 5; a++) {
            c.set(0, a, exps[a]);
        }
        int[] kinds = {2, 3, 4, 5, 6, 1, 0, 6, 5, 3, 6};
        String[] values = {"1.0", "t", "i0", "#1", "S1:1[1]", "5", "?", "S1:1[1]", "#0", "f", "S1:5[]"};
        for (int a = 0; a < kinds.length; a++) {
            Checks.due("get " + a, c.house.get(0, a), kinds[a]);
            Checks.due("its value", c.hand(), values[a]);
        }
        // likeness is worked out anew for get()
        for (int a = 0; a < 5; a++) {
            c.set(0, a, "?");
        }
        c.set(0, 3, "#1");
        c.set(1, 3, "#1");
        Checks.due("an alike one", c.got(0, 9), "t");
        c.set(1, 0, "2");
        Checks.due("not alike any more", c.got(0, 9), "f");
    }

    /** Promise 38: "Restores the saved population, also the number of instances that were made" */
    private static void restoredCombinations() {
        given("entity a;x:integer;end;entity b under a;y:integer;end;entity d;end;", 1, 3, 4, 1, 3);
        c.house.drop(3);
        int[] rows = {1, 3, 4, 0, 3};
        c.set(4, 1, "7");
        Checks.due("begin", c.house.begin(), 1);
        for (int x = 0; x < 5; x++) {
            c.house.drop(x);
            c.house.make(4);
        }
        Checks.due("made", c.house.count(7), 10);
        Checks.due("abort", c.house.abort(), 1);
        Checks.due("made", c.house.count(7), 5);
        Checks.due("existing", c.house.count(8), 4);
        for (int x = 0; x < 5; x++) {
            Checks.due("row(" + x + ")", c.house.row(x), rows[x]);
        }
        Checks.due("row(5)", c.house.row(5), ExpressHouse.BAD);
        Checks.due("a value", c.got(4, 1), "7");
        Checks.due("the next number", c.house.make(1), 5);
        given("entity a;end;");
        c.house.begin();
        for (int x = 0; x < 40; x++) {
            c.house.make(1);
        }
        c.house.abort();
        Checks.due("no instances", c.house.count(7), 0);
        for (int x = 0; x < 40; x++) {
            Checks.due("make", c.house.make(1), x);
        }
        c.house.begin();
        for (int x = 0; x < 40; x++) {
            c.house.drop(x);
        }
        c.house.abort();
        Checks.due("forty again", c.house.count(8), 40);
        Checks.due("the last one", c.house.row(39), 1);
        Checks.due("full", c.house.make(1), ExpressHouse.FULL);
    }

    private static void restoredValues() {
        given("entity a;x:list[0:?] of a;y:a;end;", 1, 1, 1);
        c.set(0, 0, "[#1,#2,#1]");
        c.set(2, 1, "#1");
        c.house.begin();
        c.house.drop(1);
        Checks.due("dropped", c.got(0, 0), "L1:5[#2]");
        c.set(2, 0, "[#2]");
        c.house.abort();
        Checks.due("a list", c.got(0, 0), "L1:5[#1,#2,#1]");
        Checks.due("an instance", c.got(2, 1), "#1");
        Checks.due("nothing", c.got(2, 0), "?");
        c.house.begin();
        c.read("#1=a((#1),#1);");
        Checks.due("alike", c.value("#3=#3"), "t");
        c.house.abort();
        Checks.due("the file's instance", c.value("#3"), "?");
        Checks.due("told stays", c.house.told(1), 3);
    }

    /** "NONE if one is saved already": the one that was saved first stays; "NONE if none is saved" */
    private static void savedOnlyOnce() {
        given("entity a;x:integer;end;", 1);
        Checks.due("commit of none", c.house.commit(), ExpressHouse.NONE);
        Checks.due("abort of none", c.house.abort(), ExpressHouse.NONE);
        c.set(0, 0, "1");
        Checks.due("begin", c.house.begin(), 1);
        c.set(0, 0, "2");
        Checks.due("begin again", c.house.begin(), ExpressHouse.NONE);
        c.set(0, 0, "3");
        Checks.due("abort", c.house.abort(), 1);
        Checks.due("what was saved first", c.got(0, 0), "1");
        Checks.due("abort again", c.house.abort(), ExpressHouse.NONE);
        Checks.due("commit behind abort", c.house.commit(), ExpressHouse.NONE);
        c.house.begin();
        c.set(0, 0, "4");
        Checks.due("commit", c.house.commit(), 1);
        Checks.due("commit again", c.house.commit(), ExpressHouse.NONE);
        Checks.due("abort behind commit", c.house.abort(), ExpressHouse.NONE);
        Checks.due("the value", c.got(0, 0), "4");
        c.house.begin();
        c.schema("schema s;entity");
        Checks.due("a faulty schema changes nothing", c.house.begin(), ExpressHouse.NONE);
        c.schema("schema s;end;");
        Checks.due("a schema forgets it", c.house.commit(), ExpressHouse.NONE);
    }

    /** "The hand and the slots are nothing then, and plain rows of lane 5 are missing." */
    private static void handsAfterAbort() {
        given("type k=enum(i);end;entity a;end;entity b;end;", 1);
        c.house.begin();
        String[] exps = {"[1]", "[1.5]", "[true]", "[i]"};
        for (int k = 0; k < 4; k++) {
            c.work(exps[k]);
            c.house.take(k);
            c.house.keep(k);
        }
        c.house.abort();
        Checks.due("the hand", c.hand(), "?");
        for (int k = 0; k < 4; k++) {
            Checks.due("the slot", c.house.like(k), 1);
            Checks.due("the row", c.house.item(k, k + 1, 0) * 0 + c.house.failed(), 0);
        }
        c.house.begin();
        c.work("[#0]");
        c.house.take(1);
        c.work("b");
        c.house.take(2);
        c.house.take(3);
        Checks.due("a row without elements", c.house.back(3), 0);
        c.house.commit();
        Checks.due("commit changes none", c.house.back(1), 1);
        c.house.begin();
        c.house.abort();
        Checks.due("a row of integers", c.house.back(0), 1);
        for (int k = 1; k < 4; k++) {
            Checks.due("a row of instances", c.house.back(k), -21);
        }
    }

    /** "a value for each explicit attribute of its entities, nothing at first" */
    private static void newOnesAreEmpty() {
        given("entity a;x:integer;y:list[0:?] of a;end;", 1);
        c.house.begin();
        c.house.make(1);
        c.set(1, 0, "5");
        c.set(1, 1, "[#0,#1]");
        c.house.abort();
        Checks.due("make", c.house.make(1), 1);
        Checks.due("a new one", c.got(1, 0), "?");
        Checks.due("a new one", c.got(1, 1), "?");
        Checks.due("usedin", c.value("usedin(#0)"), "B1:5[]");
        Checks.due("a faulty file", c.readFault("#1=a(5,(#1));#2=a(5.5,$);"), "2@18");
        Checks.due("make", c.house.make(1), 2);
        Checks.due("a new one", c.got(2, 0), "?");
        Checks.due("a new one", c.got(2, 1), "?");
        Checks.due("alike", c.value("#1=#2"), "t");
    }

    /** What an instance of another combination had under the same number is no value of the new one. */
    private static void valuesThatWereNeverTheirs() {
        given("entity a;p:d;end;entity b;q:d;end;entity d;end;", 4);
        c.house.begin();
        c.house.make(1);
        c.set(1, 0, "#0");
        c.house.abort();
        c.read("#1=b($);");
        Checks.due("usedin", c.value("usedin(#0)"), "B1:5[]");
        c.house.begin();
        c.house.make(1);
        c.set(2, 0, "#0");
        c.house.abort();
        c.house.make(2);
        Checks.due("usedin", c.value("usedin(#0)"), "B1:5[]");
        Checks.due("alike", c.value("#1=#2"), "t");
        Checks.due("a faulty file", c.readFault("#1=a($);#2=a(#3);#3=d();#4=d(1);"), "2@30");
        Checks.due("make", c.house.make(2), 3);
        Checks.due("alike", c.value("#3=#2"), "t");
        Checks.due("another faulty file", c.readFault("#1=a(#2);#2=d();#3=d(1);"), "2@22");
        Checks.due("read", c.read("#1=b($);#2=d();"), 2);
        Checks.due("usedin", c.value("usedin(#5)"), "B1:5[]");
        Checks.due("alike", c.value("#4=#2"), "t");
    }
}
