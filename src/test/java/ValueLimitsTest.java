/** Section 3: each sentence of it that names a boundary: what is alike, what fits, what is converted, places and lanes. */
public final class ValueLimitsTest {
    private static final Checks c = new Checks();
    private static final String NO = "" + ExpressHouse.NONE;

    public static void main(String[] args) {
        likeOfEachKind();
        integersAndReals();
        likeOfAggregates();
        likeOfArrays();
        likeOfInstances();
        circlesOfInstances();
        circlesThroughBags();
        likeAfterChanges();
        fitsOfPlainKinds();
        fitsOfSelects();
        fitsOfArrays();
        fitsOfListsBagsAndSets();
        conversions();
        setsWithoutAlikeOnes();
        aggregatesAreValues();
        placesUpTo24();
        lanes();
        Checks.end("ValueLimitsTest");
    }

    private static void is(String exp, String want) {
        Checks.due(exp, c.value(exp), want);
    }

    /** Whether two values are alike, asked of like() in both orders. */
    private static void likeIs(String a, String b, boolean want) {
        c.work(a);
        c.house.keep(1);
        c.work(b);
        c.house.keep(2);
        Checks.due(b + " like " + a, c.house.like(1), want ? 1 : 0);
        c.work(a);
        Checks.due(a + " like " + b, c.house.like(2), want ? 1 : 0);
    }

    private static void makeInstances(String parts, int... rows) {
        c.given(parts);
        for (int row : rows) {
            c.house.make(row);
        }
    }

    /** Values of different kinds are never alike, but for integers and reals. */
    private static void likeOfEachKind() {
        makeInstances("type k=enum(red,blue);end;type j=enum(one);end;entity e;a:array[0:?] of integer;s:set[0:?] of integer;"
            + "b:bag[0:?] of integer;end;entity f;end;", 1, 2);
        c.set(0, 0, "[]");
        c.set(0, 1, "[]");
        c.set(0, 2, "[]");
        String[] values = {"?", "0", "1", "2", "false", "unknown", "true", "red", "blue", "one", "#0", "#1", "[]", "#0.a", "#0.s",
            "#0.b", "[0]", "[1]", "[red]", "[false]", "[#0]", "[0,0]"};
        for (int i = 0; i < values.length; i++) {
            for (int j = i; j < values.length; j++) {
                likeIs(values[i], values[j], i == j);
            }
        }
        likeIs("[]", "query(q<*[1]|false)", true);
        likeIs("query(q<*[1]|false)", "query(q<*[red]|false)", true);
        is("0 in [red]", "f");
        is("0 in [false]", "f");
        is("0 in [#0]", "f");
        is("red in [0]", "f");
        is("#0 in [0,1]", "f");
        is("false in [0]", "f");
        is("1 in [unknown]", "f");
        is("0 in [0.0]", "t");
        is("0.0 in [0]", "t");
    }

    /** "both are integers or reals and equal as doubles (a NaN is alike to nothing, -0 to 0)" */
    private static void integersAndReals() {
        String most = "(999999999*2+147483649)";
        String least = "(-" + most + "-1)";
        likeIs(most, most + "*1.0", true);
        likeIs(least, least + "*1.0", true);
        likeIs(least, "65536.0*32768", false);
        likeIs(least, "65536.0*(-32768)", true);
        likeIs(most, "65536.0*32768", false);
        likeIs(most, "65536.0*32768-1", true);
        likeIs(most, "65536.0*32768-0.5", false);
        likeIs(least, "65536.0*(-32768)-1", false);
        likeIs(least, "65536.0*(-32768)+0.000001", false);
        likeIs("0", "65536.0*65536", false);
        likeIs("1", "65536.0*65536+1", false);
        likeIs("0", "0.000001", false);
        likeIs("1", "0.999999", false);
        likeIs("1", "1.000001", false);
        likeIs("-1", "1.0", false);
        likeIs("-1", "-1.0", true);
        likeIs("0", "-0.0", true);
        likeIs("0.0", "-0.0", true);
        likeIs("0.0", "0.0", true);
        likeIs("0/0", "0/0", false);
        likeIs("0/0", "?", false);
        likeIs("0/0", "0", false);
        likeIs("0/0", "1/0", false);
        likeIs("[0/0]", "[0/0]", false);
        likeIs("1/0", "1/0", true);
        likeIs("1/0", "-1/0", false);
        likeIs("0", "1/0", false);
        likeIs("0.1+0.2", "0.3", false);
        likeIs("1.5", "1.5", true);
        is("-0.0=0.0", "t");
        is("0.0=-0.0", "t");
        is("-0.0=0", "t");
        is("0=-0.0", "t");
        is("[1.5]=[-0.0]", "f");
    }

    /** "both are aggregates of one sort with the same number of places", lists one by one, bags and sets in any order */
    private static void likeOfAggregates() {
        makeInstances("entity e;b:bag[0:?] of integer;s:set[0:?] of integer;r:bag[0:?] of real;end;", 1, 1);
        String[][] bags = {{"[1,1,2]", "[1,2,2]", "f"}, {"[1,2,2]", "[1,1,2]", "f"}, {"[1,1,2]", "[2,1,1]", "t"},
            {"[1,2,1,2]", "[2,2,1,1]", "t"}, {"[1,1,1]", "[1,1]", "f"}, {"[]", "[]", "t"}, {"[1]", "[2]", "f"},
            {"[1:24]", "[1:24]", "t"}, {"[1:23,2]", "[2,1:23]", "t"}, {"[1:23,2]", "[2:2,1:22]", "f"},
            {"[1,2,3]", "[3,4,1]", "f"}};
        for (String[] pair : bags) {
            c.set(0, 0, pair[0]);
            c.set(1, 0, pair[1]);
            Checks.due("bags " + pair[0] + pair[1], c.value("#0.b=#1.b"), pair[2]);
        }
        String[][] sets = {{"[1,2,3]", "[3,1,2]", "t"}, {"[1,2,3]", "[3,1,4]", "f"}, {"[1,2]", "[1,2,3]", "f"},
            {"[]", "[]", "t"}};
        for (String[] pair : sets) {
            c.set(0, 1, pair[0]);
            c.set(1, 1, pair[1]);
            Checks.due("sets " + pair[0] + pair[1], c.value("#0.s=#1.s"), pair[2]);
        }
        c.set(0, 0, "[1,2,2]");
        c.set(0, 2, "[2.0,1.0,2.0]");
        is("#0.b=#0.r", "t");
        c.set(0, 2, "[2.0,1.0,1.0]");
        is("#0.b=#0.r", "f");
        c.set(0, 2, "[0/0]");
        is("#0.r=#0.r", "f");
        c.set(0, 0, "[1]");
        c.set(0, 1, "[1]");
        is("#0.b=#0.s", "f");
        is("#0.b=[1]", "f");
        is("#0.s<>[1]", "t");
        is("[1,2,3]=[1,2,3]", "t");
        is("[1,2,3]=[1,3,2]", "f");
        is("[1,2,3]=[1,2]", "f");
        is("[1,2,3]=[1,2,4]", "f");
        is("[unknown]=[unknown]", "t");
        is("[unknown]=[false]", "f");
    }

    /** "for arrays and lists the low indices are equal and the places alike one by one" */
    private static void likeOfArrays() {
        makeInstances("entity e;a:array[0:?] of integer;b:array[1:?] of integer;r:array[1:?] of real;l:list[0:?] of integer;end;",
            1);
        c.set(0, 0, "[7,8]");
        c.set(0, 1, "[7,8]");
        c.set(0, 2, "[7.0,8.0]");
        c.set(0, 3, "[7,8]");
        is("#0.a=#0.b", "f");
        is("#0.b=#0.r", "t");
        is("#0.b=#0.l", "f");
        is("#0.a=#0.a", "t");
        c.set(0, 1, "[8,7]");
        is("#0.b=#0.r", "f");
        String[] arrays = {"($,$)", "(7,$)", "($,7)", "(7,7)", "(7,8)", "($)", "()", "($,$,$)", "(7,$,8)", "(7,8,$)"};
        for (int i = 0; i < arrays.length; i++) {
            for (int j = 0; j < arrays.length; j++) {
                makeInstances("entity e;a:array[0:?] of integer;end;");
                c.read("#1=e(" + arrays[i] + ");#2=e(" + arrays[j] + ");");
                is("#0.a=#1.a", i == j ? "t" : "f");
            }
        }
        makeInstances("entity e;a:array[0:?] of f;b:array[0:?] of integer;end;entity f;end;", 2, 2);
        c.read("#1=e(($,$),($,$));");
        is("#2.a=#2.b", "t");
        c.set(2, 0, "[#0,#1]");
        c.house.drop(0);
        c.house.drop(1);
        Checks.due("an array of lane 5 with nothing in it", c.got(2, 0), "A0:5[?,?]");
        is("#2.a=#2.b", "t");
    }

    /** "or both exist, have the same combination, and all their explicit attributes are alike" */
    private static void likeOfInstances() {
        makeInstances("entity e;x:integer;y:real;p:optional e;derive d:e=self;inverse i:e for p[0:?];end;entity f under e;end;"
            + "entity g;end;", 1, 1, 3, 4, 4);
        is("#0=#1", "t");
        is("#0=#2", "f");
        is("#0=#3", "f");
        is("#3=#4", "t");
        is("#3:=:#4", "f");
        c.set(0, 0, "1");
        is("#0=#1", "f");
        c.set(1, 0, "1");
        is("#0=#1", "t");
        c.set(0, 1, "0/0");
        c.set(1, 1, "0/0");
        is("#0=#1", "f");
        is("#0=#0", "t");
        is("[#0]=[#0]", "t");
        c.set(0, 1, "0.0");
        c.set(1, 1, "-0.0");
        is("#0=#1", "t");
        c.set(0, 2, "#2");
        is("#0=#1", "f");
        c.set(0, 2, "#0");
        c.set(1, 2, "#1");
        is("#0=#1", "t");
        is("#0.d=#1.d", "t");
        c.set(1, 2, "#0");
        is("#0=#1", "t");
        is("#0.i=#1.i", "f");
        // one that was dropped does not exist, but is the same one
        c.work("#3");
        c.house.keep(0);
        c.work("#4");
        c.house.keep(1);
        c.house.drop(3);
        Checks.due("a dropped one and another", c.house.like(0), 0);
        Checks.due("itself", c.house.like(1), 1);
        c.house.drop(4);
        Checks.due("two dropped ones", c.house.like(0), 0);
        Checks.due("a dropped one and itself", c.house.like(1), 1);
    }

    /** "this is the greatest such relation, so that cycles of references can be alike" */
    private static void circlesOfInstances() {
        makeInstances("entity e;p:e;x:integer;end;", 1, 1, 1, 1, 1, 1);
        for (int x = 0; x < 6; x++) {
            c.set(x, 0, "#" + (x + 1) % 6);
        }
        is("#0=#3", "t");
        is("#0=#1", "t");
        c.set(0, 1, "1");
        is("#1=#3", "f");
        is("#0=#3", "f");
        c.set(3, 1, "1");
        is("#0=#3", "t");
        is("#1=#4", "t");
        is("#1=#2", "f");
        c.set(2, 0, "#0");
        is("#0=#3", "t");
        c.set(2, 0, "#1");
        is("#0=#3", "f");
        StringBuilder file = new StringBuilder();
        for (int n = 0; n < 40; n++) {
            file.append('#').append(n).append("=e(#").append((n + 1) % 40).append(",$);");
        }
        makeInstances("entity e;p:e;x:integer;end;");
        Checks.due("a circle of forty", c.read(file.toString()), 40);
        is("#0=#39", "t");
        c.set(39, 1, "1");
        is("#0=#1", "f");
        is("#37=#38", "f");
        is("#0=#38", "f");
        c.set(39, 0, "?");
        c.set(19, 1, "1");
        c.set(19, 0, "?");
        is("#0=#20", "t");
        is("#18=#38", "t");
        is("#0=#21", "f");
        c.set(19, 0, "#19");
        is("#0=#20", "f");
    }

    /** The greatest relation, too, where a place finds one that turns out to be another one while it is looked for. */
    private static void circlesThroughBags() {
        String[][] bags = {{"[#2,#1]", "[#1,#0]"}, {"[#1,#2]", "[#1,#0]"}, {"[#2,#1]", "[#0,#1]"}, {"[#1,#2]", "[#0,#1]"}};
        for (String[] pair : bags) {
            makeInstances("entity e;b:bag[0:?] of e;unique b;end;", 1, 1, 1);
            c.set(0, 0, pair[0]);
            c.set(2, 0, pair[1]);
            is("#0=#2", "t");
            is("#0=#1", "f");
            likeIs("#2.b", "#0.b", true);
            Checks.due("bags " + pair[0] + pair[1] + " are unique", c.house.judge(1), 0);
            Checks.due("the later one", c.house.judged(0, 0), 2);
            c.set(1, 0, "[]");
            is("#0=#2", "t");
            c.set(2, 0, "[#0,#0]");
            is("#0=#2", "f");
        }
        makeInstances("entity e;b:bag[0:?] of e;end;", 1, 1, 1, 1);
        String[] held = {"[]", "[#3,#2]", "[#2,#0]", "[]"};
        for (int x = 0; x < held.length; x++) {
            c.set(x, 0, held[x]);
        }
        is("#0=#3", "t");
        is("#1=#2", "t");
        is("#1=#3", "f");
    }

    private static void likeAfterChanges() {
        makeInstances("entity e;x:integer;end;", 1, 1);
        is("#0=#1", "t");
        c.house.begin();
        c.set(0, 0, "1");
        is("#0=#1", "f");
        c.house.abort();
        is("#0=#1", "t");
        c.set(0, 0, "1");
        is("#0=#1", "f");
        c.read("#1=e(1);");
        is("#0=#2", "t");
        c.house.make(1);
        is("#1=#3", "t");
        c.house.drop(1);
        is("#0=#2", "t");
        is("#1=#3", "u");
        c.house.drop(0);
        is("#3=#2", "f");
    }

    private static void fits(int a, String exp, String want) {
        int kind = c.set(0, a, exp);
        Checks.due("attribute " + a + " = " + exp, kind < 0 ? "" + kind : c.got(0, a), want);
    }

    /** "nothing fits always; integer, real, logical need these kinds; an enum needs one of its items; ..." */
    private static void fitsOfPlainKinds() {
        makeInstances("type k=enum(a,b);end;type j=enum(d,f);end;type kk=k;end;entity e;i:integer;r:real;l:logical;k1:k;k2:kk;j1:j;"
            + "e1:e;s1:sub;o1:other;end;entity sub under e;end;entity other;end;", 1, 3, 4);
        String[] values = {"7", "1.5", "unknown", "a", "b", "d", "f", "#0", "#1", "#2", "[]", "[7]"};
        String[] fine = {"7", "7 1.5", "unknown", "a b", "a b", "d f", "#0 #1", "#1", "#2"};
        for (int a = 0; a < fine.length; a++) {
            for (String value : values) {
                boolean fits = (" " + fine[a] + " ").contains(" " + value + " ");
                Checks.due(value + " for " + a, c.set(0, a, value) >= 0 ? 1 : 0, fits ? 1 : 0);
            }
            fits(a, "?", "?");
        }
        fits(6, "#0", "#0");
        c.house.drop(1);
        fits(7, "#1", "?");
    }

    /** "a select needs a value that fits one of its names; another type needs what fits its kind" */
    private static void fitsOfSelects() {
        makeInstances("type n=integer;end;type r=real;end;type l=logical;end;type k=enum(a,b);end;type s1=select(e,n);end;"
            + "type s2=select(k,s3);end;"
            + "type s3=select(r);end;type s4=s1;end;entity e;x:s1;y:s2;z:s3;w:s4;lx:list[0:?] of s1;ly:set[0:?] of s2;end;"
                + "entity f;end;", 1, 2);
        String[] values = {"7", "1.5", "unknown", "a", "#0", "#1", "[7]"};
        String[] fine = {"7 #0", "1.5 a", "1.5", "7 #0"};
        for (int a = 0; a < fine.length; a++) {
            for (String value : values) {
                boolean fits = (" " + fine[a] + " ").contains(" " + value + " ");
                Checks.due(value + " for select " + a, c.set(0, a, value) >= 0 ? 1 : 0, fits ? 1 : 0);
            }
            fits(a, "?", "?");
        }
        fits(4, "[7,8]", "L1:1[7,8]");
        fits(4, "[#0]", "L1:5[#0]");
        fits(4, "[#1]", NO);
        fits(4, "[1.5]", NO);
        fits(5, "[a,b]", "S1:4[i0,i1]");
        fits(5, "[1.5]", "S1:2[1.5]");
        fits(5, "[1]", NO);
    }

    /** "array [a : b] needs an array with low index a and b - a + 1 places (any number if b is "?")" */
    private static void fitsOfArrays() {
        makeInstances("type t=array[3:4] of integer;end;entity e;a:array[0:0] of integer;b:array[2:4] of integer;"
            + "d:array[24:24] of integer;"
            + "f:array[3:?] of integer;g:t;h:array[0:23] of integer;i:array[1:24] of integer;j:array[0:24] of integer;"
            + "k:list[0:?] of integer;end;", 1);
        int[][] sizes = {{1, 0}, {3, 2}, {1, 24}, {-1, 3}, {2, 3}, {24, 0}, {24, 1}, {25, 0}};
        for (int a = 0; a < sizes.length; a++) {
            for (int n = 0; n <= 24; n++) {
                boolean fits = sizes[a][0] < 0 || sizes[a][0] == n;
                Checks.due(n + " places for " + a, c.set(0, a, "[7:" + n + "]"), fits ? 6 : ExpressHouse.NONE);
                if (fits) {
                    c.house.get(0, a);
                    Checks.due("its low index", c.house.hand(2), sizes[a][1]);
                    Checks.due("its places", c.house.hand(3), n);
                    Checks.due("its sort", c.house.hand(1), 0);
                }
            }
        }
        c.set(0, 3, "[7,8]");
        c.set(0, 4, "[5,6]");
        fits(4, "#0.f", "A3:1[7,8]");
        fits(3, "#0.b", NO);
        fits(1, "#0.f", NO);
        fits(8, "#0.f", NO);
        fits(4, "[1,2.5:0]", NO);
        fits(4, "[true,false]", NO);
        fits(4, "[1.5,2.5]", NO);
        c.read("#1=e(($),($,1,$),($),(),($,$),$,$,$,());");
        fits(1, "#1.b", "A2:1[?,1,?]");
        fits(0, "#1.a", "A0:0[?]");
        fits(4, "#1.g", "A3:0[?,?]");
        fits(0, "#1.d", NO);
    }

    /** "list, bag and set need an aggregate of this sort (the number of places does not matter here)" */
    private static void fitsOfListsBagsAndSets() {
        makeInstances("entity e;l:list[2:3] of integer;b:bag[2:3] of integer;s:set[2:3] of integer;a:array[1:2] of integer;"
            + "r:list[0:?] of real;end;", 1);
        for (int n = 0; n <= 24; n++) {
            Checks.due("a list", c.set(0, 0, "[1:" + n + "]"), 6);
            Checks.due("a bag", c.set(0, 1, "[1:" + n + "]"), 6);
            Checks.due("a set", c.set(0, 2, "[1:" + n + "]"), 6);
        }
        fits(3, "[1,2]", "A1:1[1,2]");
        String[] places = {"#0.l", "#0.b", "#0.s", "#0.a"};
        c.set(0, 0, "[1]");
        for (int a = 1; a < 4; a++) {
            for (int from = 1; from < 4; from++) {
                Checks.due(places[from] + " for " + a, c.set(0, a, places[from]) >= 0 ? 1 : 0, a == from ? 1 : 0);
            }
            fits(0, places[a], NO);
        }
        fits(4, "[1]", NO);
        fits(4, "[1.0]", "L1:2[1.0]");
        fits(4, "[]", "L1:0[]");
        fits(0, "query(q<*[1.5]|false)", "L1:2[]");
        fits(2, "query(q<*[true]|false)", "S1:3[]");
    }

    /** "an integer where the kind is real (directly or through types, but not through a select) becomes a real" */
    private static void conversions() {
        makeInstances("type r=real;end;type rr=r;end;type s=select(rr,e);end;type n=integer;end;entity e;a:real;b:rr;d:s;i:n;"
            + "l:list[0:?] of real;x:array[2:3] of rr;end;function f(x:real):rr;return x;end;function g(x:rr):real;var y:rr;y=7;"
                + "return x+y;end;"
            + "function h(x:s):integer;if exists(x) then return 1;end;end;function m(x:integer):real;return x;end;", 1);
        fits(0, "3", "3.0");
        fits(1, "-3", "-3.0");
        fits(0, "-0", "0.0");
        fits(2, "3", NO);
        fits(2, "3.0", "3.0");
        fits(3, "3.0", NO);
        fits(3, "3", "3");
        fits(4, "[3]", NO);
        fits(5, "[3,4]", NO);
        fits(5, "[3.0,4.0]", "A2:2[3.0,4.0]");
        is("f(2)", "2.0");
        is("g(2)", "9.0");
        is("h(2)", "?");
        is("h(2.0)", "1");
        is("m(2)", "2.0");
        is("m(2.0)", "?");
    }

    /** "for a set, values that are alike to one before are left out" */
    private static void setsWithoutAlikeOnes() {
        makeInstances("type k=enum(a,b);end;entity e;i:set[0:?] of integer;r:set[0:?] of real;l:set[0:?] of logical;"
            + "k:set[0:?] of k;"
            + "x:set[0:?] of e;b:bag[0:?] of integer;n:integer;end;", 1, 1, 1);
        fits(0, "[3,1,3,2,1]", "S1:1[3,1,2]");
        fits(0, "[7:24]", "S1:1[7]");
        fits(1, "[0.0,-0.0,1.5]", "S1:2[0.0,1.5]");
        fits(1, "[-0.0,0.0]", "S1:2[-0.0]");
        fits(1, "[0/0,1.5,0/0,1.5]", "S1:2[NaN,1.5,NaN]");
        fits(2, "[unknown,true,unknown,false,true]", "S1:3[u,t,f]");
        fits(3, "[b,a,b]", "S1:4[i1,i0]");
        fits(5, "[1,1]", "B1:1[1,1]");
        // 1 and 2 are alike
        fits(4, "[#2,#1,#0,#1]", "S1:5[#2,#0]");
        c.set(1, 6, "1");
        fits(4, "[#2,#1,#0,#1]", "S1:5[#2,#1,#0]");
    }

    /** "Aggregates are values: changing a variable or attribute changes no other one." */
    private static void aggregatesAreValues() {
        makeInstances("entity e;a:list[0:?] of integer;b:list[0:?] of integer;end;"
            + "function f(x:list[0:?] of integer):list[0:?] of integer;"
            + "var y:list[0:?] of integer;y=x;x[1]=9;y[2]=8;return x+y;end;", 1);
        c.set(0, 0, "[1,2]");
        c.set(0, 1, "#0.a");
        is("f(#0.a)", "L1:1[9,2,1,8]");
        is("#0.a+#0.b", "L1:1[1,2,1,2]");
        c.house.get(0, 0);
        c.house.keep(0);
        c.house.take(0);
        c.house.put(0, 1, 0, 5);
        Checks.due("the hand", c.hand(), "L1:1[1,2]");
        Checks.due("the slot", c.house.like(0), 1);
        Checks.due("the attribute", c.got(0, 0), "L1:1[1,2]");
        c.house.back(0);
        c.house.pass(0, 0, 0, 1, 1);
        Checks.due("a list made of a row", c.hand(), "L1:1[5,2]");
        c.set(0, 0, "[]");
        Checks.due("another attribute", c.got(0, 1), "L1:1[1,2]");
    }

    /** "0 to 24 places" */
    private static void placesUpTo24() {
        makeInstances("entity e;b:bag[0:?] of integer;s:set[0:?] of integer;t:set[0:?] of integer;end;", 1);
        c.set(0, 0, "[1:12]");
        c.set(0, 1, "[1,2,3,4,5,6,7,8,9,10,11,12]");
        c.set(0, 2, "[13,14,15,16,17,18,19,20,21,22,23,24]");
        is("sizeof([1:24])", "24");
        is("[1:25]", "?");
        is("sizeof([1:23,2])", "24");
        is("[1:24,2]", "?");
        is("sizeof([1:24,2:0])", "24");
        is("sizeof([1:12]+[2:12])", "24");
        is("[1:12]+[2:13]", "?");
        is("sizeof([1:24]+[])", "24");
        is("sizeof([]+[1:24])", "24");
        is("[1:24]+[1]", "?");
        is("sizeof(#0.b+#0.b)", "24");
        is("#0.b+#0.b+#0.b", "?");
        is("sizeof(#0.s+#0.t)", "24");
        is("sizeof(#0.s+#0.t+#0.s)", "24");
        c.set(0, 2, "[12,13,14,15,16,17,18,19,20,21,22,23,24]");
        is("sizeof(#0.s+#0.t)", "24");
        c.set(0, 2, "[13,14,15,16,17,18,19,20,21,22,23,24,25]");
        is("#0.s+#0.t", "?");
        is("sizeof(#0.s*#0.s)", "12");
        is("sizeof(query(q<*[1:24]|true))", "24");
        is("[1:24][24]", "1");
        is("highindex([1:24])", "24");
        String numbers = "1,2,3,4,5,6,7,8,9,10,11,12,13,14,15,16,17,18,19,20,21,22,23,24";
        is("sizeof([" + numbers + "])", "24");
        is("[" + numbers + "][24]", "24");
        is("[" + numbers + ",25]", "?");
    }

    /** "with lanes 1 to 5, too, there may be no values; the lane stays so" */
    private static void lanes() {
        makeInstances("entity e;l:list[0:?] of e;s:set[0:?] of e;b:bag[0:?] of e;a:array[0:1] of e;i:set[0:?] of integer;end;"
            + "entity f;end;", 1, 1);
        for (int a = 0; a < 4; a++) {
            c.set(0, a, "[#1,#1]");
        }
        c.set(0, 4, "[1,2]");
        is("#0.i-#0.i", "S1:1[]");
        is("#0.i*#0.s", "S1:1[]");
        is("#0.i-#0.s", "S1:1[1,2]");
        is("#0.i-#0.i+#0.s", "?");
        is("query(q<*#0.i|false)+#0.s", "?");
        is("f", "S1:5[]");
        is("f+#0.i", "?");
        is("#0.i+f", "?");
        is("f-#0.i", "S1:5[]");
        c.house.drop(1);
        Checks.due("a list without the dropped one", c.got(0, 0), "L1:5[]");
        Checks.due("a set without the dropped one", c.got(0, 1), "S1:5[]");
        Checks.due("a bag without the dropped one", c.got(0, 2), "B1:5[]");
        Checks.due("an array without the dropped one", c.got(0, 3), "A0:5[?,?]");
        is("#0.l+[1]", "?");
        is("#0.l+[#0]", "L1:5[#0]");
        is("[]+#0.l", "L1:5[]");
        is("#0.l+[]", "L1:5[]");
        is("[]+[]", "L1:0[]");
        is("[1:0]", "L1:0[]");
        is("query(q<*[]|true)", "L1:0[]");
    }
}
