/** Section 5 and promises 29 to 31: each sentence of them that names a boundary. */
public final class RuleLimitsTest {
    private static final Checks c = new Checks();

    public static void main(String[] args) {
        numbersOfRules();
        fullestSchema();
        boundsOfPlaces();
        boundsOfArrays();
        boundsOfInverses();
        boundsOfTheEntityItself();
        uniquenessOfEarlierOnes();
        uniquenessOfAlikeOnes();
        wheresOfEntities();
        verdictOfSeveral();
        verdictOfEachValue();
        allAreEvaluated();
        wheresOfTypes();
        rulesOfTheText();
        judgedOnes();
        Checks.end("RuleLimitsTest");
    }

    private static void given(String parts, int... rows) {
        c.given(parts);
        for (int row : rows) {
            c.house.make(row);
        }
    }

    /** The verdict of a rule, and behind it the instances that are not true, with their verdicts. */
    private static void judged(int r, String want) {
        StringBuilder got = new StringBuilder();
        got.append(c.house.judge(r));
        for (int i = 0; c.house.judged(i, 1) >= 0; i++) {
            got.append(' ').append(c.house.judged(i, 0)).append('=').append(c.house.judged(i, 1));
        }
        Checks.due("judge(" + r + ")", got.toString(), want);
    }

    private static void rulesAre(String parts, String want) {
        given(parts);
        StringBuilder got = new StringBuilder();
        int count = c.house.count(5);
        for (int r = 0; r < count; r++) {
            got.append(c.house.rule(r, 0)).append(c.house.rule(r, 1)).append(' ');
        }
        Checks.due(parts, got.toString().trim(), want);
        for (int r : new int[] {-1, count, Integer.MIN_VALUE, Integer.MAX_VALUE}) {
            Checks.due("rule " + r, c.house.rule(r, 0), ExpressHouse.BAD);
            Checks.due("rule " + r, c.house.rule(r, 1), ExpressHouse.BAD);
            Checks.due("judge " + r, c.house.judge(r), ExpressHouse.BAD);
        }
        for (int r = 0; r < count; r++) {
            Checks.due("what", c.house.rule(r, -1), ExpressHouse.BAD);
            Checks.due("what", c.house.rule(r, 2), ExpressHouse.BAD);
        }
    }

    /** "for each entity in order three, its bounds, its uniqueness and its where; then one for each type; then the rules" */
    private static void numbersOfRules() {
        rulesAre("", "");
        rulesAre("entity e;end;", "00 10 20");
        rulesAre("type t=real;end;", "30");
        rulesAre("rule r;where end;", "40");
        rulesAre("rule r;where end;type t=real;end;entity e;end;rule s;where end;entity f;end;type u=enum(i);end;",
            "00 10 20 01 11 21 30 31 40 41");
        rulesAre(Checks.repeated("rule r@;where end;", 4) + Checks.repeated("type t@=real;end;", 8)
            + Checks.repeated("entity e@;end;", 12),
            "00 10 20 01 11 21 02 12 22 03 13 23 04 14 24 05 15 25 06 16 26 07 17 27 08 18 28 09 19 29 010 110 210 011 111 211 "
            + "30 31 32 33 34 35 36 37 40 41 42 43");
    }

    /** 12 entities, 8 types, 4 rules, each with expressions of its own; 40 attributes. */
    private static void fullestSchema() {
        StringBuilder parts = new StringBuilder();
        for (int t = 0; t < 8; t++) {
            parts.append("type t").append(t).append("=integer;where self<>").append(20 + t).append(";end;");
        }
        for (int e = 0; e < 12; e++) {
            parts.append("entity e").append(e).append(";a").append(e).append(":t").append(e % 8).append(";b").append(e)
                .append(":integer;c").append(e).append(":integer;").append(e < 4 ? "d" + e
                    + ":integer;" : "").append("unique a").append(e)
                .append(";b").append(e).append(",c").append(e).append(";where a").append(e).append("<>").append(50
                    + e).append(";end;");
        }
        for (int r = 0; r < 4; r++) {
            parts.append("rule r").append(r).append(";where sizeof(e").append(r).append(")<3;end;");
        }
        given(parts.toString());
        Checks.due("attributes", c.house.count(3), 40);
        for (int e = 0; e < 12; e++) {
            int a = e < 4 ? 4 * e : 16 + 3 * (e - 4);
            Checks.due("its first attribute", c.house.attribute(a, 0), e);
            int x = c.house.make(1 << e);
            judged(3 * e, "0 " + x + "=0");
            c.set(x, a, "1");
            c.set(x, a + 1, "2");
            c.set(x, a + 2, "3");
            judged(3 * e, e < 4 ? "0 " + x + "=0" : "1");
            judged(3 * e + 1, "1");
            judged(3 * e + 2, "1");
            c.set(x, a, "" + (50 + e));
            judged(3 * e + 2, "0 " + x + "=0");
            int y = c.house.make(1 << e);
            c.set(y, a + 1, "2");
            c.set(y, a + 2, "3");
            judged(3 * e + 1, "0 " + y + "=0");
            c.set(y, a + 2, "4");
            judged(3 * e + 1, "1");
            c.set(y, a, "" + (50 + e));
            judged(3 * e + 1, "0 " + y + "=0");
            c.set(x, a, "1");
            c.set(y, a, "" + (20 + e % 8));
            judged(36 + e % 8, "0 " + y + "=0");
            c.set(y, a, "2");
            judged(36 + e % 8, "1");
            Checks.due("the last attribute", c.got(y, a + 2), "4");
        }
        for (int r = 0; r < 4; r++) {
            judged(44 + r, "1");
            c.house.make(1 << r);
            judged(44 + r, "0 -3=0");
        }
        Checks.due("usedin", c.value("usedin(#23)"), "B1:5[]");
    }

    /**
     * "each value that is a list, bag or set has a number of places within the bounds of the kind of its attribute (through
     * types)"
     */
    private static void boundsOfPlaces() {
        String[] sorts = {"list", "bag", "set"};
        int[][] bounds = {{0, 0}, {0, -1}, {1, 1}, {2, 4}, {24, 24}, {23, -1}, {0, 24}, {5, 6}};
        for (String sort : sorts) {
            for (int[] bound : bounds) {
                String kind = sort + "[" + bound[0] + ":" + (bound[1] < 0 ? "?" : "" + bound[1]) + "] of integer";
                given("type t=" + kind + ";end;type u=t;end;entity e;a:" + kind + ";end;entity f;b:u;end;", 1, 2);
                for (int n = 0; n <= 24; n++) {
                    StringBuilder places = new StringBuilder();
                    for (int i = 0; i < n; i++) {
                        places.append(i > 0 ? "," : "").append(i);
                    }
                    c.set(0, 0, "[" + places + "]");
                    c.set(1, 1, "[" + places + "]");
                    boolean within = n >= bound[0] && (bound[1] < 0 || n <= bound[1]);
                    Checks.due(n + " in " + kind, c.house.judge(0), within ? 1 : 0);
                    Checks.due(n + " through types in " + kind, c.house.judge(3), within ? 1 : 0);
                }
            }
        }
    }

    /** Arrays are no list, bag or set; their number of places is no matter of bounds, nor is what is nothing in them. */
    private static void boundsOfArrays() {
        given("entity e;a:array[5:6] of integer;b:array[24:?] of integer;d:array[0:2] of integer;end;", 1);
        judged(0, "0 0=0");
        c.set(0, 0, "[1,2]");
        c.set(0, 1, "[1,2,3]");
        judged(0, "0 0=0");
        c.set(0, 2, "[1,2,3]");
        judged(0, "1");
        c.read("#1=e(($,$),(),($,$,$));");
        judged(0, "1");
    }

    /** "for each inverse attribute of this entity, the number of instances that it would contain (however many)" */
    private static void boundsOfInverses() {
        given("entity e;inverse i:f for p[2:24];end;entity g;inverse j:f for q[24:?];end;"
            + "entity f;p:e;q:list[0:?] of g;end;", 1, 2);
        for (int n = 0; n < 38; n++) {
            Checks.due("bounds with " + n, c.house.judge(0), n >= 2 && n <= 24 ? 1 : 0);
            Checks.due("bounds with " + n, c.house.judge(3), n >= 24 ? 1 : 0);
            int x = c.house.make(4);
            c.set(x, 2, "#0");
            c.set(x, 3, "[#1,#1]");
        }
        Checks.due("38 instances", c.house.judge(0), 0);
        Checks.due("38 instances", c.house.judge(3), 1);
        Checks.due("as a value", c.got(1, 1), "?");
        given("entity f;p:e;end;entity e;inverse i:f for p[1:1];end;", 1, 2);
        judged(3, "0 1=0");
        c.set(0, 0, "#1");
        judged(3, "1");
    }

    /** "each explicit attribute of this entity (itself) that is not optional is not nothing" */
    private static void boundsOfTheEntityItself() {
        given("entity e;a:integer;b:optional integer;derive d:integer=?;end;entity f under e;g:integer;h:optional integer;end;"
            + "entity k under e;end;", 3, 1, 5);
        judged(0, "0 0=0 1=0 2=0");
        judged(3, "0 0=0");
        judged(6, "1");
        c.set(0, 0, "1");
        judged(0, "0 1=0 2=0");
        judged(3, "0 0=0");
        c.set(0, 3, "1");
        judged(3, "1");
        c.set(1, 0, "1");
        c.set(2, 0, "1");
        judged(0, "1");
        c.set(0, 3, "?");
        judged(0, "1");
        c.house.drop(0);
        judged(3, "1");
    }

    /**
     * "is there an earlier existing instance with this entity whose attributes of the list are all alike to those of the
     * instance"
     */
    private static void uniquenessOfEarlierOnes() {
        given("entity e;a:integer;b:integer;unique a;end;entity f under e;d:integer;unique a,b;b,d;end;", 1, 3, 1, 3, 3);
        for (int x = 0; x < 5; x++) {
            c.set(x, 0, "7");
        }
        judged(1, "0 1=0 2=0 3=0 4=0");
        judged(4, "1");
        c.house.drop(0);
        judged(1, "0 2=0 3=0 4=0");
        c.set(1, 1, "1");
        c.set(3, 1, "1");
        judged(4, "0 3=0");
        c.set(4, 1, "1");
        judged(4, "0 3=0 4=0");
        c.set(3, 0, "8");
        judged(4, "0 4=0");
        c.set(4, 0, "9");
        judged(4, "1");
        c.set(1, 2, "2");
        c.set(4, 2, "2");
        judged(4, "0 4=0");
        c.set(1, 2, "?");
        judged(4, "1");
        c.set(4, 2, "?");
        judged(4, "1");
    }

    private static void uniquenessOfAlikeOnes() {
        given("type n=integer;end;type r=real;end;type s=select(n,r);end;entity e;a:s;b:e;d:bag[0:?] of integer;unique a;b;d;end;",
            1, 1);
        String[][] pairs = {{"1", "1.0", "0"}, {"0.0", "-0.0", "0"}, {"0/0", "0/0", "1"}, {"1", "2", "1"}, {"?", "?", "1"},
            {"1", "?", "1"}, {"1", "1", "0"}};
        for (String[] pair : pairs) {
            c.set(0, 0, pair[0]);
            c.set(1, 0, pair[1]);
            Checks.due("unique " + pair[0] + " " + pair[1], "" + c.house.judge(1), pair[2]);
        }
        c.set(0, 0, "?");
        c.set(1, 0, "?");
        c.set(0, 1, "#0");
        c.set(1, 1, "#1");
        judged(1, "0 1=0");
        c.set(0, 2, "[1,2]");
        judged(1, "1");
        c.set(1, 2, "[2,1]");
        judged(1, "0 1=0");
    }

    /** "with self being the instance", for each existing instance whose combination contains the entity */
    private static void wheresOfEntities() {
        given("entity e;a:integer;where a>0;self.a<10;end;entity f under e;where a>5;end;entity g;where false;end;", 1, 3, 4, 1);
        judged(2, "2 0=2 1=2 3=2");
        judged(5, "2 1=2");
        judged(8, "0 2=0");
        c.set(0, 0, "1");
        c.set(1, 0, "5");
        c.set(3, 0, "10");
        judged(2, "0 3=0");
        judged(5, "0 1=0");
        c.set(3, 0, "9");
        judged(2, "1");
        c.set(3, 0, "0");
        judged(2, "0 3=0");
        c.house.drop(3);
        judged(2, "1");
        c.house.drop(2);
        judged(8, "1");
        given("entity e;where end;");
        judged(2, "1");
    }

    /** "The verdict of several is the first of 0, 3, 2 that one of them is, otherwise 1." */
    private static void verdictOfSeveral() {
        String[] exps = {"false", "true", "unknown", "f()"};
        int[] ranks = {0, 3, 2, 1};
        for (int i = 0; i < 4; i++) {
            for (int j = 0; j < 4; j++) {
                for (int k = 0; k < 4; k++) {
                    int best = ranks[i] <= ranks[j] ? i : j;
                    best = ranks[best] <= ranks[k] ? best : k;
                    String where = "where " + exps[i] + ";" + exps[j] + ";" + exps[k] + ";end;";
                    given("entity e;" + where + "entity g;x:t;end;type t=integer;" + where + "rule r;" + where
                        + "function f():logical;return f();end;", 1, 2);
                    c.set(1, 0, "1");
                    Checks.due("entity " + where, c.house.judge(2), best);
                    Checks.due("type " + where, c.house.judge(6), best);
                    Checks.due("text " + where, c.house.judge(7), best);
                    given("entity e;x:integer;where g(x);end;function g(x:integer):logical;if x=0 then return false;end;"
                        + "if x=1 then return true;end;if x=2 then return unknown;end;return g(x);end;", 1, 1, 1);
                    c.set(0, 0, "" + i);
                    c.set(1, 0, "" + j);
                    c.set(2, 0, "" + k);
                    Checks.due("instances " + i + j + k, c.house.judge(2), best);
                }
            }
        }
    }

    /** "an expression that is true gives 1, one that is false 0, a run that is spent 3, everything else 2" */
    private static void verdictOfEachValue() {
        String[] exps = {"true", "false", "unknown", "?", "1", "0", "2", "1.5", "i", "e", "[]", "[true]", "#0", "not ?", "1=1",
            "1=?", "h()"};
        int[] want = {1, 0, 2, 2, 2, 2, 2, 2, 2, 2, 2, 2, 2, 2, 1, 2, 3};
        for (int i = 0; i < exps.length; i++) {
            given("type k=enum(i);end;entity e;where " + exps[i] + ";end;type t=integer;where " + exps[i]
                + ";end;entity g;x:t;end;rule r;where "
                + exps[i] + ";end;function h():logical;while true;end;end;", 1, 2);
            c.set(1, 0, "1");
            Checks.due("entity " + exps[i], c.house.judge(2), want[i]);
            Checks.due("type " + exps[i], c.house.judge(7), want[i]);
            Checks.due("rule " + exps[i], c.house.judge(8), want[i]);
        }
    }

    /** "Each expression is a run of its own, and all are evaluated" */
    private static void allAreEvaluated() {
        given("entity e;where false;1=1;unknown;1+1=2;end;rule r;where false;f();1=1;end;function f():logical;while true;end;end;",
            1, 1);
        c.house.steps(4);
        Checks.due("the verdict", c.house.judge(2), 0);
        Checks.due("the steps of all", c.house.count(12), 2 * (1 + 3 + 1 + 4));
        Checks.due("the steps of the latest", c.house.count(11), 4);
        Checks.due("the verdict", c.house.judge(3), 0);
        Checks.due("the steps of all", c.house.count(12), 18 + 1 + 4 + 3);
        Checks.due("the steps of the latest", c.house.count(11), 3);
    }

    /**
     * "for each existing instance with an explicit attribute whose kind is just the name of this type, and whose value is
     * not nothing"
     */
    private static void wheresOfTypes() {
        given("type t=integer;where self<9;end;type u=t;where self<5;end;type l=list[0:?] of t;where sizeof(self)<3;end;"
            + "type s=select(t,e);where exists(self);self=1;end;"
            + "type k=enum(i,j);where self=i;end;entity e;a:t;b:t;d:u;f:list[0:?] of t;g:l;h:s;m:k;n:optional t;derive o:t=99;end;"
            + "entity x under e;y:t;end;", 1, 3);
        for (int r = 6; r < 11; r++) {
            judged(r, "1");
        }
        c.set(0, 0, "9");
        judged(6, "0 0=0");
        c.set(0, 0, "8");
        c.set(0, 1, "9");
        judged(6, "0 0=0");
        c.set(0, 1, "8");
        c.set(0, 2, "9");
        c.set(0, 3, "[9]");
        c.set(0, 4, "[9]");
        c.set(0, 5, "9");
        judged(6, "1");
        judged(7, "0 0=0");
        c.set(0, 2, "4");
        judged(7, "1");
        judged(8, "1");
        c.set(0, 4, "[1,2,3]");
        judged(8, "0 0=0");
        judged(9, "0 0=0");
        c.set(0, 5, "#1");
        judged(9, "2 0=2");
        c.set(0, 5, "1");
        judged(9, "1");
        c.set(0, 6, "j");
        judged(10, "0 0=0");
        c.set(1, 8 + 1, "9");
        judged(6, "0 1=0");
        c.set(0, 7, "9");
        judged(6, "0 0=0 1=0");
        c.house.drop(0);
        judged(6, "0 1=0");
        judged(10, "1");
    }

    /** "A rule of the text is checked once." */
    private static void rulesOfTheText() {
        given("entity e;end;rule a;where sizeof(e)>1;end;rule b;where true;end;rule d;where end;rule g;where unknown;end;");
        judged(3, "0 -3=0");
        judged(4, "1");
        judged(5, "1");
        judged(6, "2 -3=2");
        c.house.make(1);
        judged(3, "0 -3=0");
        c.house.make(1);
        judged(3, "1");
        c.house.make(1);
        judged(6, "2 -3=2");
    }

    /** Promise 31: "of the latest call of judge() that returned no error: of the instances whose verdict was not 1" */
    private static void judgedOnes() {
        given("entity e;x:integer;where x<>5;end;rule r;where false;end;");
        Checks.due("judged before judge", c.house.judged(0, 0), ExpressHouse.BAD);
        for (int x = 0; x < 40; x++) {
            c.house.make(1);
            c.set(x, 0, "5");
        }
        c.house.judge(2);
        for (int i = 0; i < 40; i++) {
            Checks.due("judged(" + i + ", 0)", c.house.judged(i, 0), i);
            Checks.due("judged(" + i + ", 1)", c.house.judged(i, 1), 0);
        }
        for (int i : new int[] {-1, 40, Integer.MIN_VALUE, Integer.MAX_VALUE}) {
            Checks.due("judged(" + i + ", 0)", c.house.judged(i, 0), ExpressHouse.BAD);
            Checks.due("judged(" + i + ", 1)", c.house.judged(i, 1), ExpressHouse.BAD);
        }
        Checks.due("judged(0, -1)", c.house.judged(0, -1), ExpressHouse.BAD);
        Checks.due("judged(0, 2)", c.house.judged(0, 2), ExpressHouse.BAD);
        c.house.judge(4);
        Checks.due("an error changes nothing", c.house.judged(39, 0), 39);
        c.house.drop(39);
        Checks.due("a drop changes nothing", c.house.judged(39, 0), 39);
        c.set(0, 0, "1");
        c.set(38, 0, "?");
        judged(2, "0 " + ascending(1, 37, "=0 ") + "38=2");
        c.house.judge(3);
        Checks.due("a rule of the text", c.house.judged(0, 0), ExpressHouse.NONE);
        Checks.due("its verdict", c.house.judged(0, 1), 0);
        Checks.due("one entry", c.house.judged(1, 0), ExpressHouse.BAD);
    }

    private static String ascending(int first, int last, String behind) {
        StringBuilder text = new StringBuilder();
        for (int n = first; n <= last; n++) {
            text.append(n).append(behind);
        }
        return text.toString();
    }
}
