/** Promises 12 to 16: instances and their attributes. */
public final class PopulationTest {
    private static final Checks c = new Checks();

    public static void main(String[] args) {
        makeAndRow();
        full();
        setErrors();
        fitting();
        converting();
        selects();
        gets();
        drops();
        Checks.end("PopulationTest");
    }

    private static void makeAndRow() {
        c.given("entity a;end;entity b under a;end;entity d abstract;end;entity e under a over oneof(f,g);end;"
            + "entity f under e;end;entity g under e;end;");
        Checks.due("make(64)", c.house.make(64), ExpressHouse.BAD);
        Checks.due("make(-1)", c.house.make(-1), ExpressHouse.BAD);
        Checks.due("make(0)", c.house.make(0), -11);
        Checks.due("make(2)", c.house.make(2), -12);
        Checks.due("make(5)", c.house.make(5), -13);
        Checks.due("make(4)", c.house.make(4), -14);
        Checks.due("make(57)", c.house.make(57), -15);
        Checks.due("row(0)", c.house.row(0), ExpressHouse.BAD);
        Checks.due("make(3)", c.house.make(3), 0);
        Checks.due("make(1)", c.house.make(1), 1);
        Checks.due("row(0)", c.house.row(0), 3);
        Checks.due("row(1)", c.house.row(1), 1);
        Checks.due("row(2)", c.house.row(2), ExpressHouse.BAD);
        Checks.due("row(-1)", c.house.row(-1), ExpressHouse.BAD);
        Checks.due("drop(0)", c.house.drop(0), 1);
        Checks.due("row(0)", c.house.row(0), 0);
        Checks.due("drop(0) again", c.house.drop(0), ExpressHouse.BAD);
        Checks.due("drop(2)", c.house.drop(2), ExpressHouse.BAD);
        Checks.due("drop(-1)", c.house.drop(-1), ExpressHouse.BAD);
        Checks.due("make(1)", c.house.make(1), 2);
    }

    private static void full() {
        c.given("entity a;end;entity b abstract;end;");
        for (int x = 0; x < 40; x++) {
            Checks.due("make", c.house.make(1), x);
        }
        Checks.due("make the 41st", c.house.make(1), ExpressHouse.FULL);
        c.house.drop(3);
        Checks.due("make the 41st", c.house.make(1), ExpressHouse.FULL);
        Checks.due("make not allowed", c.house.make(2), -14);
        Checks.due("existing", c.house.count(8), 39);
    }

    private static void setErrors() {
        c.given("entity a;x:integer;derive y:integer=1;inverse z:b for w[0:1];end;entity b;w:a;end;");
        c.house.make(1);
        c.house.make(2);
        Checks.due("no such instance", c.set(2, 0, "%"), ExpressHouse.BAD);
        Checks.due("the tape stays", c.house.count(9), 1);
        Checks.due("no such attribute", c.set(0, 4, "1"), ExpressHouse.BAD);
        Checks.due("no such attribute", c.set(0, -1, "1"), ExpressHouse.BAD);
        Checks.due("a derived one", c.set(0, 1, "1"), ExpressHouse.BAD);
        Checks.due("an inverse one", c.set(0, 2, "#1"), ExpressHouse.BAD);
        Checks.due("of another entity", c.set(0, 3, "1"), ExpressHouse.BAD);
        Checks.due("a fault", c.set(0, 0, "1+%"), -12);
        Checks.due("its number", c.house.fault(), 1);
        Checks.due("the tape is empty", c.house.count(9), 0);
        Checks.due("self has no meaning", c.set(0, 0, "self"), -10);
        Checks.due("attributes have none", c.set(0, 0, "1+x"), -12);
        c.house.steps(2);
        Checks.due("spent", c.set(0, 0, "1+2"), ExpressHouse.SPENT);
        c.house.steps(3);
        Checks.due("not spent", c.set(0, 0, "1+2"), 1);
        Checks.due("fault", c.house.fault(), 0);
        Checks.due("does not fit", c.set(0, 0, "true"), ExpressHouse.NONE);
        Checks.due("the value stays", c.got(0, 0), "3");
        Checks.due("nothing", c.set(0, 0, "?"), 0);
        Checks.due("it is nothing", c.got(0, 0), "?");
        Checks.due("get of no such instance", c.house.get(2, 0), ExpressHouse.BAD);
        Checks.due("get of no such attribute", c.house.get(0, 4), ExpressHouse.BAD);
        Checks.due("get of no such attribute", c.house.get(0, -1), ExpressHouse.BAD);
        Checks.due("get of another entity", c.house.get(1, 0), ExpressHouse.BAD);
        c.house.drop(0);
        Checks.due("set of a dropped one", c.set(0, 0, "1"), ExpressHouse.BAD);
        Checks.due("get of a dropped one", c.house.get(0, 0), ExpressHouse.BAD);
    }

    private static void fits(int a, String exp, String want) {
        int kind = c.set(0, a, exp);
        Checks.due("attribute " + a + " = " + exp, kind < 0 ? "" + kind : c.got(0, a), want);
    }

    private static void fitting() {
        c.given("type col=enum(red,blue);end;type other=enum(one);end;type ints=list[2:3] of integer;end;"
            + "entity a;i:integer;r:real;l:logical;k:col;e:a;b:b;ar:array[2:4] of integer;ao:array[0:?] of real;"
            + "li:list[1:2] of col;ba:bag[0:?] of a;se:set[0:?] of logical;ts:ints;end;entity b under a;end;");
        c.house.make(1);
        c.house.make(3);
        String no = "" + ExpressHouse.NONE;
        String[] kinds = {"7", "1.5", "true", "red", "#0", "[]"};
        for (int a = 0; a < 5; a++) {
            for (int v = 0; v < 6; v++) {
                boolean fits = a == v || a == 1 && v == 0;
                Checks.due("fit of " + kinds[v] + " for " + a, c.set(0, a, kinds[v]) >= 0 ? 1 : 0, fits ? 1 : 0);
            }
        }
        fits(3, "blue", "i1");
        fits(3, "one", no);
        fits(5, "#0", no);
        fits(5, "#1", "#1");
        fits(4, "#1", "#1");
        fits(4, "#7", "?");
        fits(6, "[7,8,9]", "A2:1[7,8,9]");
        fits(6, "[7,8]", no);
        fits(6, "[7,8,9,1]", no);
        fits(6, "[]", no);
        fits(6, "[7.0,8.0,9.0]", no);
        fits(7, "[1.5]", "A0:2[1.5]");
        fits(7, "[]", "A0:0[]");
        fits(7, "[1]", no);
        fits(8, "[red]", "L1:4[i0]");
        fits(8, "[red,blue,red]", "L1:4[i0,i1,i0]");
        fits(8, "[red,one]", no);
        fits(8, "[]", "L1:0[]");
        fits(9, "[#0,#1,#0]", "B1:5[#0,#1,#0]");
        fits(9, "b", no);
        fits(9, "[1]", no);
        fits(10, "[true,false,true,unknown]", "S1:3[t,f,u]");
        fits(10, "query(q<*a|true)", no);
        fits(11, "[1,2,3,4]", "L1:1[1,2,3,4]");
    }

    private static void converting() {
        c.given("type re=real;end;type rr=re;end;type rs=set[0:?] of rr;end;type rt=rs;end;type se=select(re,e);end;"
            + "entity e;a:rr;s:rt;se:se;ar:array[5:6] of integer;ba:bag[0:?] of integer;ei:set[0:?] of e;x:optional real;end;");
        c.house.make(1);
        fits(0, "3", "3.0");
        fits(0, "999999999", "9.99999999E8");
        fits(1, "[1.0,2.0,1.0,2.5]", "S1:2[1.0,2.0,2.5]");
        fits(1, "[1,2]", "" + ExpressHouse.NONE);
        fits(2, "3", "" + ExpressHouse.NONE);
        fits(2, "3.0", "3.0");
        fits(2, "#0", "#0");
        fits(3, "[1,2]", "A5:1[1,2]");
        fits(4, "[2,1,2]", "B1:1[2,1,2]");
        fits(4, "#0.ei", "?");
        c.house.make(1);
        c.house.make(1);
        c.set(1, 6, "2");
        c.set(2, 6, "2.0");
        // 1 and 2 are alike, 0 is not
        fits(5, "[#2,#1,#0,#2]", "S1:5[#2,#0]");
        fits(5, "e", "S1:5[#0,#1,#2]");
        fits(4, "#0.ar", "" + ExpressHouse.NONE);
    }

    private static void selects() {
        c.given("type ints=enum(i1);end;type whole=integer;end;type s1=select(whole,e);end;type s2=select(s1,ints);end;"
            + "entity e;s:s2;ls:list[0:?] of s2;end;entity f;end;");
        c.house.make(1);
        c.house.make(2);
        fits(0, "5", "5");
        fits(0, "i1", "i0");
        fits(0, "#0", "#0");
        fits(0, "#1", "" + ExpressHouse.NONE);
        fits(0, "1.5", "" + ExpressHouse.NONE);
        fits(0, "true", "" + ExpressHouse.NONE);
        fits(1, "[5,6]", "L1:1[5,6]");
        fits(1, "[i1]", "L1:4[i0]");
        fits(1, "[#0,#1]", "" + ExpressHouse.NONE);
        Checks.due("an item in place of a select", c.house.get(0, 0), 5);
    }

    private static void gets() {
        c.given("entity a;x:integer;derive y:integer=x+1;z:real=x;t:integer=x/2;w:integer=w;v:a=self;"
            + "inverse u:b for p[0:?];u2:b for q[0:1];end;entity b;p:a;q:list[0:?] of a;end;");
        c.house.make(1);
        c.house.make(2);
        c.house.make(2);
        c.house.make(1);
        c.set(0, 0, "4");
        Checks.due("explicit", c.got(0, 0), "4");
        Checks.due("steps of an explicit one", c.house.count(11), 0);
        Checks.due("derived", c.got(0, 1), "5");
        Checks.due("steps of a derived one", c.house.count(11), 3);
        Checks.due("derived, converted", c.got(0, 2), "4.0");
        Checks.due("derived, not fitting", c.got(0, 3), "?");
        Checks.due("derived, self", c.got(0, 5), "#0");
        c.work("42");
        Checks.due("derived, spent", c.house.get(0, 4), ExpressHouse.SPENT);
        Checks.due("the hand stays", c.hand(), "42");
        // the frames 2 to 8 make one step each
        Checks.due("steps up to the ninth frame", c.house.count(11), 7);
        c.set(1, 8, "#0");
        c.set(2, 9, "[#3,#0,#0]");
        Checks.due("inverse", c.got(0, 6), "S1:5[#1]");
        Checks.due("steps of an inverse one", c.house.count(11), 0);
        Checks.due("inverse in a place", c.got(0, 7), "S1:5[#2]");
        Checks.due("inverse, empty", c.got(3, 6), "S1:5[]");
        c.given("entity a;inverse u:b for p[0:?];end;entity b;p:a;end;");
        c.house.make(1);
        for (int x = 1; x <= 25; x++) {
            c.house.make(2);
            c.set(x, 1, "#0");
            Checks.due("inverse of " + x, c.got(0, 0).length() > 1 ? 1 : 0, x <= 24 ? 1 : 0);
        }
        Checks.due("inverse of 25 instances", c.got(0, 0), "?");
    }

    private static void drops() {
        c.given("entity a;p:a;ar:array[0:2] of a;li:list[0:?] of a;ba:bag[0:?] of a;se:set[0:?] of a;i:integer;end;");
        for (int x = 0; x < 3; x++) {
            c.house.make(1);
            c.set(x, 5, "" + x);
        }
        c.set(0, 0, "#1");
        c.set(0, 1, "[#1,#2,#1]");
        c.set(0, 2, "[#1,#2,#1]");
        c.set(0, 3, "[#1,#0]");
        c.set(0, 4, "[#2,#1]");
        c.set(2, 0, "#0");
        c.set(2, 1, "[#2,#1,#0]");
        c.work("[#1,#1]");
        c.house.take(2);
        c.work("#1");
        c.house.keep(1);
        Checks.due("drop", c.house.drop(1), 1);
        Checks.due("an attribute", c.got(0, 0), "?");
        Checks.due("an array", c.got(0, 1), "A0:5[?,#2,?]");
        Checks.due("another array", c.got(2, 1), "A0:5[#2,?,#0]");
        Checks.due("a list", c.got(0, 2), "L1:5[#2]");
        Checks.due("a bag", c.got(0, 3), "B1:5[#0]");
        Checks.due("a set", c.got(0, 4), "S1:5[#2]");
        Checks.due("another attribute", c.got(2, 0), "#0");
        c.house.back(2);
        Checks.due("the row keeps it", c.hand(), "L1:5[#1,#1]");
        Checks.due("it does not exist", c.value("#1"), "?");
        Checks.due("its number is lost", c.house.make(1), 3);
        Checks.due("the extent", c.value("a"), "S1:5[#0,#2,#3]");
    }
}
