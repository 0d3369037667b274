/** Promises 29 to 31: rules and their verdicts. */
public final class RulesTest {
    private static final Checks c = new Checks();

    public static void main(String[] args) {
        numbers();
        bounds();
        noPlaces();
        uniqueness();
        wheres();
        types();
        texts();
        spent();
        Checks.end("RulesTest");
    }

    private static void numbers() {
        c.given("rule x;where end;entity a;end;type t=real;end;rule y;where end;entity b;end;type u=real;end;");
        int[][] want = {{0, 0}, {1, 0}, {2, 0}, {0, 1}, {1, 1}, {2, 1}, {3, 0}, {3, 1}, {4, 0}, {4, 1}};
        Checks.due("rules", c.house.count(5), want.length);
        for (int r = 0; r < want.length; r++) {
            Checks.due("rule(" + r + ", 0)", c.house.rule(r, 0), want[r][0]);
            Checks.due("rule(" + r + ", 1)", c.house.rule(r, 1), want[r][1]);
        }
        Checks.due("rule(10, 0)", c.house.rule(10, 0), ExpressHouse.BAD);
        Checks.due("rule(-1, 0)", c.house.rule(-1, 0), ExpressHouse.BAD);
        Checks.due("rule(0, 2)", c.house.rule(0, 2), ExpressHouse.BAD);
        Checks.due("rule(0, -1)", c.house.rule(0, -1), ExpressHouse.BAD);
        Checks.due("judge(10)", c.house.judge(10), ExpressHouse.BAD);
        Checks.due("judge(-1)", c.house.judge(-1), ExpressHouse.BAD);
        Checks.due("judged before judge", c.house.judged(0, 0), ExpressHouse.BAD);
        for (int r = 0; r < want.length; r++) {
            Checks.due("judge(" + r + ") without instances", c.house.judge(r), 1);
        }
    }

    /** The verdict of a rule, and behind it the instances that are not true, with their verdicts. */
    private static void judged(int r, String want) {
        StringBuilder got = new StringBuilder();
        got.append(c.house.judge(r));
        for (int i = 0; c.house.judged(i, 1) >= 0; i++) {
            got.append(' ').append(c.house.judged(i, 0)).append('=').append(c.house.judged(i, 1));
        }
        Checks.due("judge(" + r + ")", got.toString(), want);
    }

    private static void bounds() {
        c.given("type li=list[1:2] of integer;end;entity a;x:integer;y:optional integer;l:optional li;s:optional set[2:?] of integer;"
            + "ar:optional array[1:3] of integer;inverse u:b for p[1:2];end;entity b;p:optional list[0:?] of a;end;"
            + "entity d under a;z:integer;end;");
        c.house.make(1);
        c.house.make(1);
        judged(0, "0 0=0 1=0");
        c.house.make(2);
        c.set(2, 6, "[#0,#0,#1]");
        judged(0, "0 0=0 1=0");
        c.set(0, 0, "1");
        judged(0, "0 1=0");
        c.set(1, 0, "1");
        judged(0, "1");
        Checks.due("judged of none", c.house.judged(0, 0), ExpressHouse.BAD);
        c.set(0, 2, "[]");
        judged(0, "0 0=0");
        c.set(0, 2, "[1,2,3]");
        judged(0, "0 0=0");
        c.set(0, 2, "[1,2]");
        c.set(0, 3, "[1,1]");
        judged(0, "0 0=0");
        c.set(0, 3, "[1,2]");
        c.set(0, 4, "[1,2,3]");
        judged(0, "1");
        c.house.make(2);
        c.house.make(2);
        c.set(3, 6, "[#1]");
        judged(0, "1");
        c.set(4, 6, "[#1]");
        judged(0, "0 1=0");
        c.house.drop(4);
        judged(0, "1");
        c.house.make(5);
        c.set(3, 6, "[#5]");
        judged(0, "0 5=0");
        judged(6, "0 5=0");
        c.set(5, 0, "3");
        judged(0, "1");
        judged(6, "0 5=0");
        judged(3, "1");
        c.house.drop(5);
        judged(0, "1");
        judged(6, "1");
    }

    private static void noPlaces() {
        c.given("entity a;x:list[0:0] of integer;inverse u:b for p[0:0];end;entity b;p:a;end;");
        c.house.make(1);
        c.set(0, 0, "[]");
        judged(0, "1");
        c.set(0, 0, "[1]");
        judged(0, "0 0=0");
        c.set(0, 0, "[]");
        c.house.make(2);
        c.set(1, 2, "#0");
        judged(0, "0 0=0");
    }

    private static void uniqueness() {
        c.given("entity a;x:integer;y:real;p:a;unique x,y;p;end;entity b under a;z:integer;unique z,x;end;");
        for (int i = 0; i < 4; i++) {
            c.house.make(3);
        }
        judged(1, "1");
        c.set(0, 0, "1");
        c.set(1, 0, "1");
        c.set(2, 0, "1");
        judged(1, "1");
        c.set(0, 1, "2.5");
        c.set(2, 1, "2.5");
        judged(1, "0 2=0");
        c.set(1, 1, "2.5");
        judged(1, "0 1=0 2=0");
        c.house.drop(0);
        judged(1, "0 2=0");
        c.set(2, 1, "0/0");
        c.set(1, 1, "0/0");
        judged(1, "1");
        c.set(3, 2, "#3");
        c.set(2, 2, "#3");
        judged(1, "0 3=0");
        c.set(2, 2, "#1");
        judged(1, "1");
        judged(4, "1");
        c.set(1, 3, "4");
        c.set(2, 3, "4");
        judged(4, "0 2=0");
        c.given("entity a;p:b;unique p;end;entity b;x:integer;end;");
        c.house.make(1);
        c.house.make(1);
        c.house.make(2);
        c.house.make(2);
        c.set(0, 0, "#2");
        c.set(1, 0, "#3");
        judged(1, "0 1=0");
        c.set(3, 1, "1");
        judged(1, "1");
        judged(4, "1");
    }

    private static void wheres() {
        c.given("entity a;x:integer;where x>0;self.x<10;end;entity b under a;where x<>5;end;");
        c.house.make(1);
        c.house.make(3);
        c.house.make(1);
        judged(2, "2 0=2 1=2 2=2");
        c.set(0, 0, "5");
        c.set(1, 0, "5");
        c.set(2, 0, "12");
        judged(2, "0 2=0");
        judged(5, "0 1=0");
        c.set(2, 0, "?");
        judged(2, "2 2=2");
        c.set(0, 0, "0");
        judged(2, "0 0=0 2=2");
        Checks.due("judged(2, 0)", c.house.judged(2, 0), ExpressHouse.BAD);
        Checks.due("judged(-1, 0)", c.house.judged(-1, 0), ExpressHouse.BAD);
        Checks.due("judged(0, 2)", c.house.judged(0, 2), ExpressHouse.BAD);
        Checks.due("judged(0, -1)", c.house.judged(0, -1), ExpressHouse.BAD);
        Checks.due("an error", c.house.judge(99), ExpressHouse.BAD);
        Checks.due("what was judged stays", c.house.judged(1, 0), 2);
        Checks.due("steps of the latest expression", c.house.count(11), 4);
        c.given("entity a;where 1;end;entity b;where end;");
        c.given("entity a;where 1;true;end;");
        c.house.make(1);
        judged(2, "2 0=2");
    }

    private static void types() {
        c.given("type n=integer;where self>0;self<9;end;type m=n;where false;end;type e=enum(red,blue);where self=red;end;"
            + "entity a;x:n;y:n;l:list[0:?] of n;k:e;end;entity b;w:n;end;entity d;v:m;z:array[0:0] of n;end;");
        c.house.make(1);
        c.house.make(2);
        c.house.make(4);
        judged(9, "1");
        c.set(0, 0, "3");
        judged(9, "1");
        c.set(0, 1, "9");
        c.set(0, 2, "[0]");
        judged(9, "0 0=0");
        c.set(1, 4, "0");
        judged(9, "0 0=0 1=0");
        c.set(2, 5, "0");
        c.set(2, 6, "[0]");
        judged(9, "0 0=0 1=0");
        judged(10, "0 2=0");
        c.set(0, 1, "8");
        judged(9, "0 1=0");
        c.house.drop(1);
        judged(9, "1");
        judged(11, "1");
        c.set(0, 3, "blue");
        judged(11, "0 0=0");
        c.set(0, 3, "red");
        judged(11, "1");
    }

    private static void texts() {
        c.given("entity a;end;rule x;where sizeof(a)<2;end;rule y;where end;rule z;where a;exists(a);end;");
        judged(3, "1");
        judged(4, "1");
        judged(5, "2 -3=2");
        c.house.make(1);
        c.house.make(1);
        judged(3, "0 -3=0");
        c.given("rule x;where unknown;false;end;rule y;where unknown;f();end;rule z;where f();false;end;"
            + "function f():logical;return f();end;");
        judged(0, "0 -3=0");
        judged(1, "3 -3=3");
        judged(2, "0 -3=0");
    }

    private static void spent() {
        c.given("entity a;x:integer;where x>0;(1<2) and true;end;");
        c.house.make(1);
        c.set(0, 0, "1");
        c.house.steps(5);
        judged(2, "1");
        c.house.steps(4);
        judged(2, "3 0=3");
        Checks.due("all are evaluated", c.house.count(12), 1 + 3 + 5 + 3 + 4);
        c.set(0, 0, "0");
        judged(2, "0 0=0");
    }
}
