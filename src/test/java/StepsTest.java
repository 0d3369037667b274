/** Section 4, with promises 6, 16 and 39: how many steps a run has, when it is spent, and frames. */
public final class StepsTest {
    private static final Checks c = new Checks();

    public static void main(String[] args) {
        stepsOfExpressions();
        stepsOfQueries();
        stepsOfFunctions();
        stepsOfLoops();
        stepsOfAttributes();
        stepsInTheirOrder();
        twentyThousandInAll();
        framesOfFunctions();
        framesOfAttributes();
        framesThatAreNotOpened();
        framesOfRules();
        limitOfSteps();
        Checks.end("StepsTest");
    }

    /** An expression has just so many steps: it is spent with one less, and has made just these then. */
    private static void stepsAre(String exp, int want) {
        for (int limit : new int[] {want, want - 1, 1000}) {
            if (limit > 0) {
                c.house.steps(limit);
                int all = c.house.count(12);
                c.work("?");
                int kind = c.work(exp);
                Checks.due(exp + " with " + limit, kind == ExpressHouse.SPENT ? 1 : 0, limit < want ? 1 : 0);
                Checks.due("steps of " + exp + " with " + limit, c.house.count(11), Math.min(limit, want));
                Checks.due("steps of all", c.house.count(12), all + 1 + Math.min(limit, want));
            }
        }
        c.house.steps(1000);
    }

    private static void given(String parts, int... rows) {
        c.given(parts);
        for (int row : rows) {
            c.house.make(row);
        }
    }

    /** "each node (before its parts; the operators of one sum or term together, ...)" */
    private static void stepsOfExpressions() {
        given("type k=enum(red);end;entity e;p:e;x:integer;l:list[0:?] of e;end;", 1);
        c.set(0, 0, "#0");
        c.set(0, 2, "[#0,#0]");
        String[] ones = {"1", "1.5", "true", "unknown", "?", "#0", "#7", "red", "e", "[]", "(1)", "((1))"};
        for (String one : ones) {
            stepsAre(one, 1);
            stepsAre("-" + one, 2);
            stepsAre("not " + one, 2);
            stepsAre(one + " +1", 3);
            stepsAre("[" + one + "]", 2);
            stepsAre("[1:" + one + "]", 3);
            stepsAre("exists(" + one + ")", 2);
            stepsAre("nvl(" + one + "," + one + ")", 3);
            stepsAre(one + " .x", 2);
            stepsAre(one + "[" + one + "]", 3);
            stepsAre(one + " < " + one, 3);
        }
        stepsAre("1+2-3 or 4 xor 5", 9);
        stepsAre("1*2/3 div 4 mod 5 and 6", 11);
        stepsAre("1+2*3<4*5-6", 11);
        stepsAre("#0.p.p.p.x", 5);
        stepsAre("#0.l[1].l[2].x", 8);
        stepsAre("-#0.p.x*-#0.p.x", 9);
        stepsAre("[1,2:3,[4],5:6]", 8);
        stepsAre("((1)+((2)))*(3)", 5);
        stepsAre("1 in [1,2]", 5);
        stepsAre("false and true", 3);
        stepsAre("usedin(#0)", 2);
    }

    private static void stepsOfQueries() {
        given("entity e;end;", 1, 1, 1);
        stepsAre("query(q<*[]|1=1)", 2);
        stepsAre("query(q<*5|1=1)", 2);
        stepsAre("query(q<*?|1=1)", 2);
        stepsAre("query(q<*[1]|q)", 4);
        stepsAre("query(q<*[1:3]|q)", 7);
        stepsAre("query(q<*[1:24]|1=q)", 4 + 24 * 3);
        stepsAre("query(q<*e|q=q)", 2 + 3 * 3);
        stepsAre("query(q<*[1,2]|1 in query(w<*[3,4]|w))", 4 + 2 * (1 + 1 + 4 + 2));
    }

    private static void stepsOfFunctions() {
        given("function a():integer;end;function b():integer;return 1;end;function d(x:integer):integer;var y:integer;y=x;x=y+1;"
            + "return x;"
            + "return x;end;function f(x:list[0:?] of integer):integer;x[1]=2;x[9]=3;return 1;end;function g(x:integer):integer;"
            + "if x then return 1;else return 2+3;end;return 4;end;function h():integer;if true then end;return 1+1;end;");
        stepsAre("a()", 1);
        stepsAre("b()", 3);
        stepsAre("b()+b()", 7);
        stepsAre("d(1)", 2 + 2 + 4 + 2);
        stepsAre("d(true)", 2);
        stepsAre("d(d(1))", 1 + 10 + 8);
        stepsAre("f([1])", 3 + 3 + 3);
        stepsAre("f([1:9])", 4 + 3 + 3 + 2);
        stepsAre("g(1)", 2 + 2 + 4);
        stepsAre("h()", 1 + 2 + 4);
    }

    /** "each statement, and each turn of a repeat is a step when it begins" */
    private static void stepsOfLoops() {
        given("function r(x:integer,y:integer,z:integer):integer;repeat i=x to y by z;end;return 7;end;"
            + "function s(x:integer):integer;repeat i=1 to x;if i=2 then skip;end;x=i;end;return x;end;"
            + "function w(x:integer):integer;while x>0;x=x-1;end;return x;end;"
            + "function e():integer;repeat i=1 to 9;escape;end;while true;escape;end;return 1;end;"
            + "function k(x:integer):integer;while x>0;x=x-1;skip;x=9;end;return x;end;"
            + "function n():integer;repeat i=1 to 3;repeat j=1 to 2;end;end;return 1;end;");
        stepsAre("r(1,1,1)", 4 + 4 + 1 + 2);
        stepsAre("r(1,0,1)", 4 + 4 + 2);
        stepsAre("r(1,5,1)", 4 + 4 + 5 + 2);
        stepsAre("r(1,5,2)", 4 + 4 + 3 + 2);
        stepsAre("r(5,1,-1)", 5 + 4 + 5 + 2);
        stepsAre("r(1,5,0)", 4 + 4);
        stepsAre("r(1,?,1)", 4 + 4);
        stepsAre("s(0)", 2 + 3 + 2);
        stepsAre("s(3)", 2 + 3 + 3 * (1 + 4) + 1 + 2 * 2 + 2);
        stepsAre("w(0)", 2 + 1 + 3 + 2);
        stepsAre("w(3)", 2 + 1 + 3 * (3 + 4) + 3 + 2);
        stepsAre("e()", 1 + 3 + 1 + 1 + 1 + 1 + 1 + 2);
        stepsAre("k(2)", 2 + 1 + 2 * (3 + 4 + 1) + 3 + 2);
        stepsAre("n()", 1 + 3 + 3 * (1 + 3 + 2) + 2);
        String most = "999999999*2+147483649";
        stepsAre("r(" + most + "-1," + most + ",1)", 10 + 6 + 4 + 2 + 2 - 2);
        stepsAre("r(-(" + most + ")," + "-(" + most + ")-1,-1)", 19 + 4 + 2 + 2 - 2);
    }

    /** "it has 0 steps for an explicit or inverse attribute, and those of its expression for a derived one" */
    private static void stepsOfAttributes() {
        given("entity e;x:integer;derive d:integer=x+1;f:integer=self.d+d;g:integer=1;inverse i:f for p[0:?];end;"
            + "entity f under e;p:e;end;",
            1, 3);
        int[] want = {0, 3, 4 + 3 + 3, 1, 0};
        for (int a = 0; a < want.length; a++) {
            for (int limit : new int[] {1000, want[a], want[a] - 1}) {
                if (limit > 0) {
                    c.work("1+1");
                    c.house.steps(limit);
                    int all = c.house.count(12);
                    Checks.due("get " + a, c.house.get(0, a) == ExpressHouse.SPENT ? 1 : 0, limit < want[a] ? 1 : 0);
                    Checks.due("its steps", c.house.count(11), Math.min(limit, want[a]));
                    Checks.due("all steps", c.house.count(12), all + Math.min(limit, want[a]));
                    c.house.steps(1000);
                }
            }
        }
        stepsAre("#0.x", 2);
        stepsAre("#0.d", 2 + 3);
        stepsAre("#0.f", 2 + 10);
        stepsAre("#0.i", 2);
        stepsAre("#7.d", 2);
        stepsAre("1 .d", 2);
        stepsAre("#0.p", 2);
        Checks.due("set", c.set(0, 0, "1+2"), 1);
        Checks.due("steps of set", c.house.count(11), 3);
        c.house.steps(2);
        Checks.due("set, spent", c.set(0, 0, "5+2"), ExpressHouse.SPENT);
        Checks.due("steps of set", c.house.count(11), 2);
        c.house.steps(1000);
        Checks.due("set, not fitting", c.set(0, 0, "1<2"), ExpressHouse.NONE);
        Checks.due("steps of set", c.house.count(11), 3);
        c.set(0, 0, "1+%");
        Checks.due("a text with a fault is no run", c.house.count(11), 3);
        c.house.get(9, 0);
        Checks.due("BAD is no run", c.house.count(11), 3);
    }

    /** A run is spent where it stands: the steps before the ninth frame tell the order of the nodes. */
    private static void stepsInTheirOrder() {
        given("entity e;x:integer;end;function f(n:integer):integer;if n=0 then return 0;end;return f(n-1);end;", 1);
        // the call and its argument, and 4 and 5 steps in each of the frames 2 to 8
        int call = 2 + 7 * (4 + 5);
        String[] exps = {"f(7)", "f(7)+1*2", "1*2+f(7)", "f(7)*2+1-3", "[1,f(7),2,3]", "[1:2,3:f(7)]", "-[1][f(7)].x",
            "f(7).x.x[1]",
            "f(7)<f(8)", "1+2<f(7)", "query(q<*f(7)|1)", "query(q<*[1,2]|f(7))", "nvl(1,f(7))", "not (1=f(7))"};
        int[] before = {0, 1, 4, 3, 2, 4, 5, 3, 1, 4, 1, 4, 2, 3};
        for (int i = 0; i < exps.length; i++) {
            Checks.due("the ninth frame in " + exps[i], c.work(exps[i]), ExpressHouse.SPENT);
            Checks.due("steps before it in " + exps[i], c.house.count(11), before[i] + call);
        }
    }

    /** "or all runs together have made 20000" */
    private static void twentyThousandInAll() {
        given("entity e;x:integer;derive d:integer=1;where true;end;function f():integer;while true;end;end;rule r;where true;"
            + "1=1;end;", 1);
        for (int run = 1; run <= 19; run++) {
            Checks.due("a thousand steps", c.work("f()"), ExpressHouse.SPENT);
            Checks.due("all steps", c.house.count(12), 1000 * run);
        }
        c.house.steps(990);
        c.work("f()");
        c.house.steps(1000);
        Checks.due("all steps", c.house.count(12), 19990);
        Checks.due("the verdict of a rule with 4 steps", c.house.judge(3), 1);
        Checks.due("the last but one", c.work("1+2+3"), 1);
        Checks.due("all steps", c.house.count(12), 19999);
        Checks.due("two steps", c.work("-1"), ExpressHouse.SPENT);
        Checks.due("its steps", c.house.count(11), 1);
        Checks.due("all steps", c.house.count(12), 20000);
        Checks.due("one step", c.work("1"), ExpressHouse.SPENT);
        Checks.due("its steps", c.house.count(11), 0);
        Checks.due("a derived attribute", c.house.get(0, 1), ExpressHouse.SPENT);
        Checks.due("an explicit one", c.house.get(0, 0), 0);
        Checks.due("set", c.set(0, 0, "1"), ExpressHouse.SPENT);
        Checks.due("a rule", c.house.judge(2), 3);
        Checks.due("bounds need no steps", c.house.judge(0), 0);
        Checks.due("a fault comes before", c.work("1+"), -12);
        c.schema("schema s;end;");
        Checks.due("a schema changes nothing", c.work("1"), ExpressHouse.SPENT);
        Checks.due("all steps", c.house.count(12), 20000);
        given("function f():integer;while true;end;end;");
        for (int run = 1; run <= 19; run++) {
            c.work("f()");
        }
        c.house.steps(999);
        c.work("f()");
        Checks.due("the twenty thousandth step", c.work("1"), 1);
        Checks.due("all steps", c.house.count(12), 20000);
        Checks.due("no more", c.work("1"), ExpressHouse.SPENT);
    }

    /** "and when a ninth frame would be open. One frame is open in each run; each call of a function of the schema ..." */
    private static void framesOfFunctions() {
        given("function f(n:integer):integer;if n<=0 then return 0;end;return 1+f(n-1);end;function g(n:integer):integer;"
            + "return n+1;end;"
            + "function o(n:integer):integer;if n<=0 then return 0;end;return e(n-1)+1;end;"
            + "function e(n:integer):integer;if n<=0 then return 0;end;return o(n-1)+1;end;");
        for (int n = 0; n <= 9; n++) {
            Checks.due("f(" + n + ")", c.value("f(" + n + ")"), n <= 6 ? "" + n : "-4");
            Checks.due("e(" + n + ")", c.value("e(" + n + ")"), n <= 6 ? "" + n : "-4");
        }
        Checks.due("one behind the other", c.value("f(6)+f(6)+f(6)"), "18");
        Checks.due("arguments are evaluated before", c.value("g(g(g(g(g(g(g(g(1))))))))"), "9");
        Checks.due("in a query", c.value("query(q<*[5,6,7]|f(6)<q)"), "L1:1[7]");
        Checks.due("arguments in the first frame", c.value("f(f(6))"), "6");
        Checks.due("built-in functions open none", c.value("abs(abs(abs(abs(abs(abs(f(6)))))))"), "6");
    }

    /** "... and each derived attribute opens one more while it is evaluated." */
    private static void framesOfAttributes() {
        given("entity e;p:e;q:e;derive d:integer=nvl(p.d,0)+1;f:integer=g(p);inverse i:e for p[0:?];end;"
            + "function g(x:e):integer;if not exists(x) then return 0;end;return x.f+1;end;", 1, 1, 1, 1, 1, 1, 1, 1, 1);
        for (int x = 1; x < 9; x++) {
            c.set(x, 0, "#" + (x - 1));
            c.set(x, 1, "#" + (x - 1));
        }
        for (int x = 0; x < 9; x++) {
            Checks.due("d of " + x, c.value("#" + x + ".d"), x <= 6 ? "" + (x + 1) : "-4");
            Checks.due("get d of " + x, c.got(x, 2), x <= 6 ? "" + (x + 1) : "-4");
            Checks.due("f of " + x, c.value("#" + x + ".f"), x <= 2 ? "" + x : "-4");
            Checks.due("get f of " + x, c.got(x, 3), x <= 2 ? "" + x : "-4");
        }
        Checks.due("explicit ones open none", c.value("#8.q.q.q.q.q.q.q.q"), "#0");
        Checks.due("inverse ones open none", c.value("#0.i[1].i[1].i[1].i[1].i[1].i[1].i[1].i[1]"), "#8");
        Checks.due("one behind the other", c.value("#6.d+#6.d"), "14");
    }

    /** "each has to fit its parameter, otherwise the result is nothing, and no frame is opened" */
    private static void framesThatAreNotOpened() {
        given("entity e;derive d:integer=1;end;entity x;end;function f(n:integer):integer;if n=6 then return nvl(f(true),5);end;"
            + "return f(n+1);end;"
            + "function g(n:integer):integer;if n=6 then return nvl(#1.d,5);end;return g(n+1);end;"
            + "function h(n:integer):integer;if n=6 then return h(7);end;return h(n+1);end;"
            + "function k(n:integer):integer;if n=6 then return #0.d;end;return k(n+1);end;", 1, 2);
        Checks.due("an argument that does not fit", c.value("f(0)"), "5");
        Checks.due("another entity's attribute", c.value("g(0)"), "5");
        Checks.due("the ninth frame", c.value("h(0)"), "-4");
        Checks.due("seven calls of h", c.value("h(8-1)"), "-4");
        Checks.due("the ninth frame", c.value("k(0)"), "-4");
        Checks.due("the eighth frame", c.value("k(1)"), "1");
    }

    /** The first frame of a rule's run is that of its expression. */
    private static void framesOfRules() {
        given("entity e;x:integer;where f(x)>=0;end;type t=integer;where f(self)>=0;end;entity h;y:t;end;rule a;where f(6)>=0;"
            + "end;rule b;where f(7)>=0;end;"
            + "function f(n:integer):integer;if n<=0 then return 0;end;return f(n-1);end;", 1, 1, 2, 2);
        c.set(0, 0, "6");
        Checks.due("an endless one", c.house.judge(2), 3);
        c.set(1, 0, "6");
        Checks.due("eight frames", c.house.judge(2), 1);
        c.set(1, 0, "7");
        Checks.due("nine frames", c.house.judge(2), 3);
        c.set(2, 1, "6");
        Checks.due("eight frames", c.house.judge(6), 1);
        c.set(3, 1, "7");
        Checks.due("nine frames", c.house.judge(6), 3);
        Checks.due("eight frames", c.house.judge(7), 1);
        Checks.due("nine frames", c.house.judge(8), 3);
    }

    /** "1 to 1000; it is 1000 at first" */
    private static void limitOfSteps() {
        c.house = new ExpressHouse();
        int[][] calls = {{0, -1}, {1001, -1}, {-1, -1}, {Integer.MIN_VALUE, -1}, {Integer.MAX_VALUE, -1}, {1000, 1000},
            {1, 1000}, {0, -1}, {1, 1}, {999, 1}, {1001, -1}, {1000, 999}, {500, 1000}, {1000, 500}};
        for (int[] call : calls) {
            Checks.due("steps(" + call[0] + ")", c.house.steps(call[0]), call[1]);
        }
        String sum = Checks.repeated("1+", 299) + "1";
        Checks.due("599 steps", c.work(sum), 1);
        c.house.steps(599);
        Checks.due("599 steps", c.work(sum), 1);
        c.house.steps(598);
        Checks.due("599 steps", c.work(sum), ExpressHouse.SPENT);
        Checks.due("its steps", c.house.count(11), 598);
        given("function f():integer;repeat i=1 to 9999;end;end;function g():integer;repeat i=1 to 996;end;end;function h():integer;"
            + "repeat i=1 to 997;end;end;");
        Checks.due("1000 steps", c.work("g()"), 0);
        Checks.due("its steps", c.house.count(11), 1000);
        Checks.due("1001 steps", c.work("h()"), ExpressHouse.SPENT);
        Checks.due("its steps", c.house.count(11), 1000);
    }
}
