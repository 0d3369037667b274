/** Section 4: each sentence of it that names a boundary of operators, places, built-in functions and statements. */
public final class EvaluationLimitsTest {
    private static final Checks c = new Checks();
    private static final String MOST = "(999999999*2+147483649)", LEAST = "(-" + MOST + "-1)";

    public static void main(String[] args) {
        wholesOf32Bits();
        quotients();
        nanAndInfinity();
        wrongOperands();
        aggregatesOfOperators();
        comparisons();
        comparisonsOfNothing();
        namedThings();
        extentsOf24();
        members();
        indices();
        lists();
        queries();
        arguments();
        results();
        builtInOfWholes();
        builtInOfReals();
        builtInOfAggregates();
        assignments();
        indexedAssignments();
        variablesAreNothing();
        branches();
        repeats();
        loopsInLoops();
        Checks.end("EvaluationLimitsTest");
    }

    private static void is(String exp, String want) {
        Checks.due(exp, c.value(exp), want);
    }

    private static void given(String parts, int... rows) {
        c.given(parts);
        for (int row : rows) {
            c.house.make(row);
        }
    }

    /** "nothing if the result has more than 32 bits" */
    private static void wholesOf32Bits() {
        c.house = new ExpressHouse();
        is(MOST, "2147483647");
        is(LEAST, "-2147483648");
        is(MOST + "+0", "2147483647");
        is(MOST + "+1", "?");
        is("1+" + MOST, "?");
        is(MOST + "+" + MOST, "?");
        is(LEAST + "+0", "-2147483648");
        is(LEAST + "+(-1)", "?");
        is(LEAST + "+" + LEAST, "?");
        is(LEAST + "+" + MOST, "-1");
        is(LEAST + "-0", "-2147483648");
        is(LEAST + "-1", "?");
        is(LEAST + "-(-1)", "-2147483647");
        is(MOST + "-(-1)", "?");
        is("0-" + LEAST, "?");
        is("-1-" + LEAST, "2147483647");
        is("0-" + MOST, "-2147483647");
        is(LEAST + "-" + LEAST, "0");
        is("65536*32767+65535", "2147483647");
        is("65536*32768", "?");
        is("46340*46340", "2147395600");
        is("46341*46341", "?");
        is("65536*(-32768)", "-2147483648");
        is("65536*(-32769)", "?");
        is("(-65536)*32768", "-2147483648");
        is("(-65536)*(-32768)", "?");
        is("65536*65536", "?");
        is(LEAST + "*1", "-2147483648");
        is(LEAST + "*(-1)", "?");
        is(LEAST + "*0", "0");
        is(LEAST + "*" + LEAST, "?");
        is(MOST + "*" + MOST, "?");
        is("-" + MOST, "-2147483647");
        is("-" + LEAST, "?");
        is("-(0)", "0");
        is("-" + LEAST + "*1.0", "?");
        is(MOST + "*1.0+1", "2.147483648E9");
        is(LEAST + "*1.0-1", "-2.147483649E9");
    }

    /** "the quotient truncated, the remainder with the sign of the left one; nothing for division by 0, ..." */
    private static void quotients() {
        int[] numbers = {0, 1, -1, 2, -2, 3, -3, 7, -7, 100, -100};
        for (int a : numbers) {
            for (int b : numbers) {
                is("(" + a + ") div (" + b + ")", b == 0 ? "?" : "" + a / b);
                is("(" + a + ") mod (" + b + ")", b == 0 ? "?" : "" + a % b);
                is("(" + a + ") / (" + b + ")", "" + (double) a / (double) b);
            }
        }
        is(LEAST + " div (-1)", "?");
        is(LEAST + " mod (-1)", "0");
        is(LEAST + " div 1", "-2147483648");
        is(LEAST + " mod 1", "0");
        is(MOST + " div (-1)", "-2147483647");
        is(LEAST + " div 2", "-1073741824");
        is(LEAST + " div " + LEAST, "1");
        is(LEAST + " mod " + MOST, "-1");
        is(LEAST + " div 0", "?");
        is(LEAST + " mod 0", "?");
        is("1.0 div 1", "?");
        is("1 div 1.0", "?");
        is("1.0 mod 1", "?");
        is("1 mod 1.0", "?");
    }

    private static void nanAndInfinity() {
        String[] values = {"0/0", "1/0", "-1/0", "0.0", "-0.0", "1.5", "-1.5", "2"};
        double[] doubles = {Double.NaN, Double.POSITIVE_INFINITY, Double.NEGATIVE_INFINITY, 0.0, -0.0, 1.5, -1.5, 2};
        for (int i = 0; i < values.length; i++) {
            for (int j = 0; j < values.length; j++) {
                boolean wholes = i == 7 && j == 7;
                String a = "(" + values[i] + ")";
                String b = "(" + values[j] + ")";
                is(a + "+" + b, wholes ? "4" : "" + (doubles[i] + doubles[j]));
                is(a + "-" + b, wholes ? "0" : "" + (doubles[i] - doubles[j]));
                is(a + "*" + b, wholes ? "4" : "" + (doubles[i] * doubles[j]));
                is(a + "/" + b, "" + doubles[i] / doubles[j]);
                is(a + "<" + b, doubles[i] < doubles[j] ? "t" : "f");
                is(a + "<=" + b, doubles[i] <= doubles[j] ? "t" : "f");
                is(a + ">" + b, doubles[i] > doubles[j] ? "t" : "f");
                is(a + ">=" + b, doubles[i] >= doubles[j] ? "t" : "f");
                is(a + "=" + b, doubles[i] == doubles[j] ? "t" : "f");
                is(a + ":=:" + b, doubles[i] == doubles[j] ? "t" : "f");
                is(a + "<>" + b, doubles[i] == doubles[j] ? "f" : "t");
                is("min(" + a + "," + b + ")", wholes ? "2" : "" + Math.min(doubles[i], doubles[j]));
                is("max(" + a + "," + b + ")", wholes ? "2" : "" + Math.max(doubles[i], doubles[j]));
                double sign = Double.isNaN(doubles[j]) ? 1.0 : doubles[j];
                is("copysign(" + a + "," + b + ")", "" + Math.copySign(doubles[i], sign));
            }
        }
        for (String exp : new String[] {"0/0", "-(0/0)", "0/0+1", "1/0-1/0", "abs(0/0)", "copysign(0/0,-1)", "copysign(-(0/0),-1)",
            "sign(0/0)"}) {
            c.work(exp);
            Checks.due("bits of " + exp, c.house.bits(ExpressHouse.NONE), 0x7ff8000000000000L);
        }
    }

    /** "In all cases that are not described here the result is nothing." */
    private static void wrongOperands() {
        given("type k=enum(red);end;entity e;end;", 1);
        String[] values = {"1", "1.5", "true", "red", "#0", "[1]", "?"};
        String[] operators = {"+", "-", "*", "/", " div ", " mod ", " and ", " or ", " xor "};
        for (int i = 0; i < values.length; i++) {
            for (int j = 0; j < values.length; j++) {
                for (int o = 0; o < operators.length; o++) {
                    boolean numbers = i < 2 && j < 2 && o < 4 || i == 0 && j == 0 && o < 6;
                    boolean logicals = (i == 2 || i == 6) && (j == 2 || j == 6) && o >= 6;
                    boolean listsOfOne = i == 5 && j == 5 && o == 0;
                    String exp = values[i] + operators[o] + values[j];
                    Checks.due(exp, c.value(exp).equals("?") ? 0 : 1, numbers || logicals || listsOfOne ? 1 : 0);
                }
            }
            is("-" + values[i], i == 0 ? "-1" : i == 1 ? "-1.5" : "?");
            is("not " + values[i], i == 2 ? "f" : i == 6 ? "u" : "?");
        }
    }

    private static void aggregatesOfOperators() {
        given("entity e;a:array[1:?] of integer;l:list[0:?] of integer;b:bag[0:?] of integer;s:set[0:?] of integer;"
            + "t:set[0:?] of integer;"
            + "x:set[0:?] of e;end;", 1, 1, 1);
        for (int a = 0; a < 4; a++) {
            c.set(0, a, "[1,2]");
        }
        c.set(0, 4, "[2,3]");
        String[] sorts = {"#0.a", "#0.l", "#0.b", "#0.s"};
        String[] sums = {"?", "L1:1[1,2,1,2]", "B1:1[1,2,1,2]", "S1:1[1,2]"};
        for (int i = 0; i < 4; i++) {
            for (int j = 0; j < 4; j++) {
                is(sorts[i] + "+" + sorts[j], i == j ? sums[i] : "?");
                is(sorts[i] + "*" + sorts[j], i == 3 && j == 3 ? "S1:1[1,2]" : "?");
                is(sorts[i] + "-" + sorts[j], i == 3 && j == 3 ? "S1:1[]" : "?");
                is(sorts[i] + "/" + sorts[j], "?");
                is(sorts[i] + " div " + sorts[j], "?");
                is(sorts[i] + " and " + sorts[j], "?");
            }
            is(sorts[i] + "+1", "?");
            is("1+" + sorts[i], "?");
            is("-" + sorts[i], "?");
        }
        is("#0.s+#0.t", "S1:1[1,2,3]");
        is("#0.t+#0.s", "S1:1[2,3,1]");
        is("#0.s*#0.t", "S1:1[2]");
        is("#0.s-#0.t", "S1:1[1]");
        is("#0.t-#0.s", "S1:1[3]");
        // 1 and 2 are alike, and both in the extent
        c.set(1, 5, "[#1]");
        c.set(2, 5, "[#2]");
        is("e*#1.x", "S1:5[#1,#2]");
        is("e-#1.x", "S1:5[#0]");
        is("#1.x+e", "S1:5[#1,#0]");
        is("#1.x+(e-#1.x)+e", "S1:5[#1,#0]");
    }

    /** "< <= > >= compare integers and reals as doubles (...), logicals, and items of one type by their numbers" */
    private static void comparisons() {
        given("type k=enum(a,b,d);end;type j=enum(f,g);end;entity e;end;", 1);
        String[][] rising = {{LEAST, "-5", "-1", "0", "1", "5", MOST},
            {"-1/0", LEAST + "*2.0", LEAST, "-2.5", "-2", "-1.5", "-0.000001", "0", "0.000001", "1", "1.5", "2", "2.5", MOST,
                MOST + "*2.0", "1/0"},
            {"false", "unknown", "true"}, {"a", "b", "d"}, {"f", "g"}};
        for (String[] values : rising) {
            for (int i = 0; i < values.length; i++) {
                for (int j = 0; j < values.length; j++) {
                    is(values[i] + "<" + values[j], i < j ? "t" : "f");
                    is(values[i] + "<=" + values[j], i <= j ? "t" : "f");
                    is(values[i] + ">" + values[j], i > j ? "t" : "f");
                    is(values[i] + ">=" + values[j], i >= j ? "t" : "f");
                }
            }
        }
        for (String sign : new String[] {"<", "<=", ">", ">="}) {
            for (String wrong : new String[] {"a#f", "f#d", "a#0", "0#a", "true#2", "1#true", "#0##0", "[1]#[1]", "[]#[]", "[1]#1",
                "a#true"}) {
                int at = wrong.indexOf('#', 1);
                String exp = wrong.substring(0, at) + " " + sign + " " + wrong.substring(at + 1);
                is(exp, "?");
            }
        }
        for (String sign : new String[] {"=", "<>", ":=:"}) {
            for (String wrong : new String[] {"a 0", "true 2", "1 true", "#0 0", "[1] 1", "a #0", "[] 0", "1.5 a"}) {
                is(wrong.replace(" ", " " + sign + " "), "?");
            }
            String same = sign.equals("<>") ? "f" : "t";
            String other = sign.equals("<>") ? "t" : "f";
            is("a" + sign + "a", same);
            is("a" + sign + "f", other);
            is("1" + sign + "1.0", same);
            is("#0" + sign + "#0", same);
            is("[1]" + sign + "[1]", same);
            is("[1]" + sign + "[]", other);
            is("true" + sign + "true", same);
            is("true" + sign + "false", other);
            for (String open : new String[] {"true unknown", "unknown true", "unknown unknown", "false unknown"}) {
                is(open.replace(" ", sign), "u");
            }
        }
    }

    /** "If one operand of < <= > >= = <> :=: in is nothing, the result is unknown." */
    private static void comparisonsOfNothing() {
        for (String sign : new String[] {"<", "<=", ">", ">=", "=", "<>", ":=:", " in "}) {
            for (String value : new String[] {"1", "1.5", "true", "unknown", "a", "#0", "[1]", "[]", "?"}) {
                is(value + sign + "?", "u");
                is("?" + sign + value, "u");
            }
        }
        is("1 in 1", "?");
        is("1 in #0", "?");
        is("1 in true", "?");
        is("[1] in [1]", "f");
        is("[] in []", "f");
        is("1 in []", "f");
    }

    /** "# n is instance n if it exists." */
    private static void namedThings() {
        given("entity e;end;", 1, 1);
        is("#0", "#0");
        is("#1", "#1");
        is("#2", "?");
        is("#39", "?");
        is("#40", "?");
        is("#000000001", "#1");
        is("#999999999", "?");
        c.house.drop(1);
        is("#1", "?");
        is("e", "S1:5[#0]");
        c.house.drop(0);
        is("e", "S1:5[]");
        for (int x = 2; x < 40; x++) {
            c.house.make(1);
        }
        is("#39", "#39");
        is("#40", "?");
    }

    /** "More than 24 instances, here and for entities, give nothing.", and "(more than 24: nothing)" for usedin */
    private static void extentsOf24() {
        given("entity e;p:e;q:list[0:?] of e;inverse i:e for p[0:?];j:e for q[0:?];end;entity f under e;end;");
        for (int x = 0; x < 26; x++) {
            is("sizeof(e)", x <= 24 ? "" + x : "?");
            is("sizeof(f)", "" + x / 2);
            if (x > 0) {
                is("sizeof(#0.i)", x <= 24 ? "" + x : "?");
                is("sizeof(#0.j)", x <= 24 ? "" + x : "?");
                is("sizeof(usedin(#0))", 2 * x <= 24 ? "" + 2 * x : "?");
            }
            c.house.make(x % 2 == 0 ? 1 : 3);
            c.set(x, 0, "#0");
            c.set(x, 1, "[#0:2]");
        }
        c.house.drop(25);
        is("e", "?");
        c.house.drop(24);
        is("sizeof(e)", "24");
        is("sizeof(#0.i)", "24");
        for (int x = 12; x < 23; x++) {
            c.set(x, 0, "?");
            c.set(x, 1, "?");
        }
        is("usedin(#0)", "?");
        c.set(23, 0, "?");
        is("usedin(#0)", "?");
        c.set(23, 1, "?");
        is("sizeof(usedin(#0))", "24");
        is("usedin(#1)", "B1:5[]");
        is("usedin(#99)", "?");
        is("usedin(?)", "?");
    }

    /** "a . NAME, if a is an instance whose combination contains the entity of the attribute" */
    private static void members() {
        given("entity e;x:integer;derive d:integer=7;inverse i:g for p[0:?];end;entity f under e;y:integer;derive w:integer=8;"
            + "inverse j:g for p[0:?];end;entity g;p:e;q:array[0:1] of e;end;", 1, 3, 4, 4);
        c.set(0, 0, "5");
        c.set(1, 3, "6");
        c.set(2, 6, "#0");
        c.set(3, 6, "#1");
        is("#0.x", "5");
        is("#0.d", "7");
        is("#0.i", "S1:5[#2]");
        is("#0.y", "?");
        is("#0.w", "?");
        is("#0.j", "?");
        is("#1.y", "6");
        is("#1.w", "8");
        is("#1.j", "S1:5[#3]");
        is("#1.i", "S1:5[#3]");
        for (String value : new String[] {"0", "0.0", "false", "?", "[]", "[#0]", "e", "#7", "#2"}) {
            for (String name : new String[] {"x", "d", "i", "y", "w", "j"}) {
                is(value + " ." + name, "?");
            }
        }
        is("#2.p.x", "5");
        is("#3.p.p", "?");
        // the instance 0 as one that has another one, and in a place
        given("entity g;p:e;q:array[0:1] of e;end;entity e;inverse i:g for p[0:?];j:g for q[0:?];end;", 1, 1, 2);
        c.set(0, 0, "#2");
        c.set(0, 1, "[#2,#2]");
        is("#2.i", "S1:5[#0]");
        is("#2.j", "S1:5[#0]");
        is("usedin(#2)", "B1:5[#0,#0]");
        c.set(1, 1, "[#2,#2]");
        is("#2.j", "S1:5[#0,#1]");
        is("usedin(#2)", "B1:5[#0,#0,#1]");
    }

    /** "a [ i ], for an aggregate and an integer: the value in the place with index i, counted from the low index" */
    private static void indices() {
        given("entity e;a:array[2:4] of integer;l:list[0:?] of integer;b:bag[0:?] of integer;s:set[0:?] of integer;"
            + "z:array[0:?] of integer;end;", 1);
        for (int a = 0; a < 5; a++) {
            c.set(0, a, "[5,6,7]");
        }
        String[] names = {"a", "l", "b", "s", "z"};
        int[] lows = {2, 1, 1, 1, 0};
        for (int a = 0; a < 5; a++) {
            for (int i = -2; i < 8; i++) {
                boolean inside = i >= lows[a] && i < lows[a] + 3;
                is("#0." + names[a] + "[" + i + "]", inside ? "" + (5 + i - lows[a]) : "?");
            }
            for (String wrong : new String[] {"2.0", "true", "?", "[2]", "#0", MOST, LEAST, "99"}) {
                is("#0." + names[a] + "[" + wrong + "]", "?");
            }
            is("lowindex(#0." + names[a] + ")", "" + lows[a]);
            is("highindex(#0." + names[a] + ")", "" + (lows[a] + 2));
        }
        for (String value : new String[] {"5", "1.5", "true", "?", "#0"}) {
            is(value + "[1]", "?");
            is(value + "[0]", "?");
        }
        is("[1,2][1][1]", "?");
        is("[][1]", "?");
        is("[][0]", "?");
        c.read("#1=e(($,5,$),$,$,$,());");
        is("#1.a[2]", "?");
        is("#1.a[3]", "5");
        is("highindex(#1.z)", "-1");
        is("sizeof(#1.a)", "3");
    }

    /** "each repeated as often as the integer behind ":" says (not below 0; once without it)" and the lanes */
    private static void lists() {
        given("type k=enum(red);end;entity e;end;", 1);
        is("[7:0]", "L1:0[]");
        is("[7:1]", "L1:1[7]");
        is("[7:2]", "L1:1[7,7]");
        is("[7:-1]", "?");
        is("[7:" + MOST + "]", "?");
        is("[7:" + LEAST + "]", "?");
        is("[7,8:-1]", "?");
        is("[8:-1,7]", "?");
        is("[7:true]", "?");
        is("[7:1.0]", "?");
        is("[7:?]", "?");
        is("[7:[1]]", "?");
        String[] values = {"1", "1.5", "true", "red", "#0"};
        for (int i = 0; i < values.length; i++) {
            c.work("[" + values[i] + "]");
            Checks.due("lane of " + values[i], c.house.hand(4), i + 1);
            for (int j = 0; j < values.length; j++) {
                c.work("[" + values[i] + "," + values[j] + "]");
                Checks.due("list of " + values[i] + " and " + values[j], c.house.hand(3), i == j ? 2 : ExpressHouse.NONE);
                c.work("[" + values[i] + ":0," + values[j] + "]");
                Checks.due("lane without " + values[i], c.house.hand(4), j + 1);
                c.work("[" + values[j] + "," + values[i] + ":0]");
                Checks.due("lane without " + values[i], c.house.hand(4), j + 1);
            }
            is("[" + values[i] + ",?]", "?");
            is("[?," + values[i] + "]", "?");
            is("[" + values[i] + ",[]]", "?");
        }
        is("[?]", "?");
        is("[[]]", "?");
        is("[?:0]", "L1:0[]");
        is("[[]:0,?:0]", "L1:0[]");
        is("sizeof([1:20,2:4])", "24");
        is("[1:20,2:5]", "?");
        is("[1:25,2:0]", "?");
        is("sizeof([1:0,2:24])", "24");
    }

    /** "the values of the places of the aggregate, in order, without nothing, for which the expression is true" */
    private static void queries() {
        given("entity e;a:array[5:7] of integer;b:bag[0:?] of integer;s:set[0:?] of integer;z:array[0:?] of e;end;", 1);
        c.read("#1=e(($,8,9),(1,1,2),(1,2),(#1,$));#2=e(($,$,$),(),(),());");
        is("query(q<*#1.a|true)", "L1:1[8,9]");
        is("query(q<*#1.a|exists(q))", "L1:1[8,9]");
        is("query(q<*#1.a|not exists(q))", "L1:1[]");
        is("query(q<*#1.a|q>8)", "L1:1[9]");
        is("query(q<*#1.b|true)", "B1:1[1,1,2]");
        is("query(q<*#1.b|q=1)", "B1:1[1,1]");
        is("query(q<*#1.s|true)", "S1:1[1,2]");
        is("query(q<*#1.z|true)", "L1:5[#1]");
        is("query(q<*#2.a|true)", "L1:0[]");
        is("query(q<*#2.b|true)", "B1:0[]");
        is("query(q<*#2.z|true)", "L1:0[]");
        for (String other : new String[] {"false", "unknown", "?", "1", "2", "[true]", "q", "#0"}) {
            is("query(q<*[7]|" + other + ")", "L1:1[]");
        }
        is("query(q<*[true,false,unknown]|q)", "L1:3[t]");
        for (String no : new String[] {"1", "1.5", "true", "?", "#0"}) {
            is("query(q<*" + no + "|true)", "?");
        }
        is("sizeof(query(q<*[1:24]|true))", "24");
        is("query(q<*[1:23,2]|q=2)", "L1:1[2]");
        // many one behind the other, and behind them some inside others
        is(Checks.repeated("sizeof(query(q<*[1]|true))+", 40) + "1", "41");
        is(Checks.repeated("sizeof(query(q<*[1]|true))+", 33) + "sizeof(query(q<*[1,2,3]|sizeof(query(r<*[1,4]|r=q))=1))", "34");
        is("query(q<*" + Checks.repeated("query(r<*[7]|true)+", 10) + "[8]|sizeof(query(s<*[1,2]|sizeof(query(t<*[3]|t>s))=1))=2)",
            "L1:1[" + Checks.repeated("7,", 10) + "8]");
        c.given("function f(a:integer,b:integer,d:integer,e:integer):integer;" + Checks.repeated("var v@:integer;", 6)
            + "repeat i=1 to 1;repeat j=2 to 2;repeat k=3 to 3;repeat l=4 to 4;repeat m=5 to 5;repeat n=6 to 6;end;"
            + "v5=sizeof(query(q<*[1,2]|sizeof(query(r<*[3,4]|sizeof(query(s<*[5]|(q<r) and (r<s)))=1))=2))*100000"
            + "+i*10000+j*1000+k*100+l*10+m;end;end;end;end;end;return v5;end;");
        is("f(1,2,3,4)", "212345");
    }

    /** "each has to fit its parameter, otherwise the result is nothing" */
    private static void arguments() {
        given("type k=enum(red);end;entity e;end;function f(a:integer,b:real,d:logical,g:set[0:?] of integer):integer;return 7;end;"
            + "function g(a:integer,b:real,d:real,h:real):real;return ((a*10+b)*10+d)*10+h;end;function h(a:k):k;return a;end;"
            + "function p(a:e):e;return a;end;", 1);
        is("f(1,2,true,[1,1])", "7");
        is("f(1.0,2,true,[1])", "?");
        is("f(1,true,true,[1])", "?");
        is("f(1,2,2,[1])", "?");
        is("f(1,2,true,[1.5])", "?");
        is("f(1,2,true,1)", "?");
        is("f(?,?,?,?)", "7");
        is("g(1,2,3,4)", "1234.0");
        is("h(red)", "i0");
        is("h(0)", "?");
        is("p(#0)", "#0");
        is("p(#1)", "?");
        is("p(e)", "?");
    }

    /** "The result is what is returned, if it fits the kind of the function, otherwise nothing; it is nothing, too, at the end" */
    private static void results() {
        given("function a():integer;end;function b():integer;return 1.5;end;function d():real;return 1;end;"
            + "function e():set[0:?] of integer;"
            + "return [1,1,2];end;function f():array[2:3] of integer;return [1];end;function g():integer;return ?;return 1;end;");
        is("a()", "?");
        is("b()", "?");
        is("d()", "1.0");
        is("e()", "S1:1[1,2]");
        is("f()", "?");
        is("g()", "?");
    }

    private static void builtInOfWholes() {
        c.house = new ExpressHouse();
        is("abs(" + LEAST + ")", "?");
        is("abs(" + LEAST + "+1)", "2147483647");
        is("abs(" + MOST + ")", "2147483647");
        is("abs(0)", "0");
        is("sign(" + LEAST + ")", "-1");
        is("sign(-1)", "-1");
        is("sign(0)", "0");
        is("sign(1)", "1");
        is("sign(" + MOST + ")", "1");
        is("odd(" + LEAST + ")", "f");
        is("odd(" + MOST + ")", "t");
        is("odd(-1)", "t");
        is("odd(0)", "f");
        is("odd(1.0)", "?");
        is("min(" + LEAST + "," + MOST + ")", "-2147483648");
        is("max(" + LEAST + "," + MOST + ")", "2147483647");
        is("min(1,1)", "1");
        is("min(1,1.0)", "1.0");
        is("max(1.0,1)", "1.0");
        is("floor(" + LEAST + ")", "-2.147483648E9");
        is("ceil(" + MOST + ")", "2.147483647E9");
        is("rint(-3)", "-3.0");
        is("copysign(" + LEAST + ",1)", "2.147483648E9");
        is("copysign(0,-1)", "-0.0");
        is("copysign(5,0)", "5.0");
        is("copysign(5,-0.0)", "-5.0");
        for (String name : "abs floor ceil rint sign sizeof lowindex highindex usedin odd".split(" ")) {
            for (String value : new String[] {"?", "true", "unknown"}) {
                is(name + "(" + value + ")", "?");
            }
            is("exists(" + name + "(true))", "f");
        }
        for (String name : "copysign min max".split(" ")) {
            is(name + "(1,?)", "?");
            is(name + "(?,1)", "?");
            is(name + "(true,1)", "?");
            is(name + "(1.5,[1])", "?");
        }
    }

    private static void builtInOfReals() {
        String values = "0.0 -0.0 0.4 -0.4 0.5 -0.5 0.6 -0.6 1.5 -1.5 2.5 -2.5 3.0 -3.0 0.499999 0.500001 999999.5 -999999.5 "
            + "999998.5 "
            + "0.000001 -0.000001";
        for (String text : values.split(" ")) {
            double value = Double.parseDouble(text);
            is("floor(" + text + ")", "" + Math.floor(value));
            is("ceil(" + text + ")", "" + Math.ceil(value));
            is("rint(" + text + ")", "" + Math.rint(value));
            is("abs(" + text + ")", "" + Math.abs(value));
            is("sign(" + text + ")", "" + Math.signum(value));
        }
        for (String name : "floor ceil rint".split(" ")) {
            is(name + "(1/0)", "Infinity");
            is(name + "(-1/0)", "-Infinity");
            is(name + "(0/0)", "NaN");
            is(name + "(65536.0*65536*65536*16+1)", "" + (4503599627370496.0 + 1));
            is(name + "(65536.0*65536*65536*16-0.5)", name.equals("floor") ? "4.503599627370495E15" : "4.503599627370496E15");
        }
        is("abs(-1/0)", "Infinity");
        is("sign(-1/0)", "-1.0");
    }

    private static void builtInOfAggregates() {
        given("entity e;a:array[24:24] of integer;b:array[0:?] of integer;s:set[0:?] of integer;end;", 1);
        c.set(0, 0, "[1]");
        c.set(0, 1, "[]");
        c.set(0, 2, "[1:24]");
        String[] exps = {"[]", "[1]", "[1:24]", "#0.a", "#0.b", "#0.s", "e"};
        int[][] want = {{0, 1, 0}, {1, 1, 1}, {24, 1, 24}, {1, 24, 24}, {0, 0, -1}, {1, 1, 1}, {1, 1, 1}};
        for (int i = 0; i < exps.length; i++) {
            is("sizeof(" + exps[i] + ")", "" + want[i][0]);
            is("lowindex(" + exps[i] + ")", "" + want[i][1]);
            is("highindex(" + exps[i] + ")", "" + want[i][2]);
            is("exists(" + exps[i] + ")", "t");
            is("nvl(?," + exps[i] + ")=" + exps[i], "t");
            is("abs(" + exps[i] + ")", "?");
            is("usedin(" + exps[i] + ")", "?");
        }
        is("exists(?)", "f");
        is("exists(false)", "t");
        is("exists(#0)", "t");
        is("exists(#1)", "f");
        is("nvl(?,1)", "1");
        is("nvl(false,true)", "f");
        is("nvl(1,?)", "1");
    }

    /** "NAME = exp: the value has to fit the kind of the parameter or variable, otherwise the function ends." */
    private static void assignments() {
        given("entity e;end;function f(x:real,y:e):integer;x=y;return 1;end;function g(x:real,y:integer):integer;x=y;y=x;"
            + "return 1;end;"
            + "function h(x:real):real;x=7;return x;end;function k(x:set[0:?] of integer):set[0:?] of integer;x=[3,3];return x;end;"
            + "function l(x:array[0:1] of integer):integer;x=[1];return 1;end;function m(x:e):integer;x=?;"
                + "if exists(x) then return 1;end;return 2;end;", 1);
        is("f(1,#0)", "?");
        is("f(1,?)", "1");
        is("g(1,2)", "?");
        is("h(1)", "7.0");
        is("k([1])", "S1:1[3]");
        is("l([1,2])", "?");
        is("m(#0)", "2");
    }

    private static void indexed(String kind, String statement, String argument, String want) {
        given("type n=real;end;type li=list[0:?] of n;end;entity e;end;function f(x:" + kind + "):" + kind + ";" + statement
            + "return x;end;"
            + "function g(x:" + kind + "):integer;" + statement + "return 5;end;", 1);
        is("f(" + argument + ")", want);
        Checks.due(statement + " with " + argument + " goes on", c.value("g(" + argument + ")"), want.equals("?") ? "?" : "5");
    }

    /** "The function ends unless NAME contains an aggregate, i is an integer and one of its indices, ..." */
    private static void indexedAssignments() {
        String list = "list[0:?] of integer";
        indexed(list, "x[1]=9;", "[1,2,3]", "L1:1[9,2,3]");
        indexed(list, "x[3]=9;", "[1,2,3]", "L1:1[1,2,9]");
        indexed(list, "x[0]=9;", "[1,2,3]", "?");
        indexed(list, "x[4]=9;", "[1,2,3]", "?");
        indexed(list, "x[-1]=9;", "[1,2,3]", "?");
        indexed(list, "x[" + MOST + "]=9;", "[1,2,3]", "?");
        indexed(list, "x[" + LEAST + "]=9;", "[1,2,3]", "?");
        indexed(list, "x[24]=9;", "[1:24]", "L1:1[" + Checks.repeated("1,", 23) + "9]");
        indexed(list, "x[1]=9;", "[]", "?");
        indexed(list, "x[1.0]=9;", "[1,2,3]", "?");
        indexed(list, "x[true]=9;", "[1,2,3]", "?");
        indexed(list, "x[?]=9;", "[1,2,3]", "?");
        indexed(list, "x[[1]]=9;", "[1,2,3]", "?");
        indexed(list, "x[1]=?;", "[1,2,3]", "?");
        indexed(list, "x[1]=1.5;", "[1,2,3]", "?");
        indexed(list, "x[1]=[1];", "[1,2,3]", "?");
        indexed(list, "x=?;x[1]=1;", "[1]", "?");
        indexed("li", "x[2]=9;", "[1.5,2.5]", "L1:2[1.5,9.0]");
        indexed("integer", "x[1]=9;", "1", "?");
        String array = "array[3:5] of integer";
        indexed(array, "x[3]=9;", "[1,2,3]", "A3:1[9,2,3]");
        indexed(array, "x[5]=9;", "[1,2,3]", "A3:1[1,2,9]");
        indexed(array, "x[2]=9;", "[1,2,3]", "?");
        indexed(array, "x[6]=9;", "[1,2,3]", "?");
        indexed(array, "x[4]=?;", "[1,2,3]", "A3:1[1,?,3]");
        indexed(array, "x[4]=?;x[3]=?;x[5]=?;", "[1,2,3]", "A3:1[?,?,?]");
        indexed(array, "x[4]=?;x[4]=7;", "[1,2,3]", "A3:1[1,7,3]");
        indexed(array, "x[5]=?;x[4]=?;x[5]=7;", "[1,2,3]", "A3:1[1,?,7]");
        String set = "set[0:?] of integer";
        indexed(set, "x[1]=9;", "[1,2,3]", "S1:1[9,2,3]");
        indexed(set, "x[1]=1;", "[1,2,3]", "S1:1[1,2,3]");
        indexed(set, "x[1]=2;", "[1,2,3]", "?");
        indexed(set, "x[2]=1;", "[1,2,3]", "?");
        indexed(set, "x[3]=1;", "[1,2,3]", "?");
        indexed(set, "x[3]=2;", "[1,2,3]", "?");
        indexed(set, "x[3]=3;", "[1,2,3]", "S1:1[1,2,3]");
        indexed(set, "x[1]=?;", "[1,2,3]", "?");
        indexed("bag[0:?] of integer", "x[2]=1;", "[1,2,3]", "B1:1[1,1,3]");
        indexed("bag[0:?] of integer", "x[1]=?;", "[1,2,3]", "?");
        lanesOfIndexedAssignments();
    }

    /** "its kind is the lane (a lane of 0 becomes its kind) or it is nothing and the aggregate is an array" */
    private static void lanesOfIndexedAssignments() {
        given("type n=integer;end;type r=real;end;type s=select(n,r,e);end;entity e;a:array[0:1] of s;end;"
            + "function f(x:array[0:1] of s,i:integer,y:s):array[0:1] of s;x[i]=y;return x;end;", 1);
        c.read("#1=e(($,$));");
        is("f(#1.a,0,7)", "A0:1[7,?]");
        is("f(#1.a,1,2.5)", "A0:2[?,2.5]");
        is("f(#1.a,1,true)", "?");
        is("f(#1.a,0,#0)", "A0:5[#0,?]");
        is("f(#1.a,1,#0)", "A0:5[?,#0]");
        is("f(#1.a,1,?)", "A0:0[?,?]");
        is("f([1,2],0,3)", "A0:1[3,2]");
        is("f([1,2],0,#0)", "?");
        is("f([1,2],1,2.5)", "?");
        is("f([1.5,2.5],1,3)", "?");
        is("f(f([1,2],0,?),1,?)", "A0:1[?,?]");
        is("f(f(f([1,2],0,?),1,?),0,2.5)", "?");
        is("f(f(f([1,2],0,?),1,?),0,4)", "A0:1[4,?]");
    }

    /** "with all variables being nothing at first and without self" */
    private static void variablesAreNothing() {
        given("function f(x:integer):integer;var y:integer;var z:integer;if exists(y) or exists(z) then return 99;end;y=x;z=x;"
            + "if x>0 then return f(x-1)+1;end;return 0;end;function g(a:integer,b:integer,d:integer,h:integer):integer;"
            + "var v:integer;var w:integer;if exists(v) or exists(w) then return 99;end;v=a+b;w=d+h;return v+w;end;"
            + "function k():list[0:?] of integer;var v:list[0:?] of integer;return v;end;");
        is("f(3)", "3");
        is("f(3)+f(2)", "5");
        is("g(1,2,3,4)+g(1,2,3,4)", "20");
        is("query(q<*[1,2]|g(q,q,q,q)=4*q)", "L1:1[1,2]");
        is("f(1)", "1");
        is("k()", "?");
    }

    /** "if and while go by whether the expression is true; all other values count as not true" */
    private static void branches() {
        given("entity e;end;function f(x:logical):integer;var y:integer;if x then y=1;else y=2;end;return y;end;"
            + "function g(x:integer):integer;var y:integer;if x>1 then y=1;if x>2 then y=3;end;else y=2;if x<0 then y=4;else y=5;"
                + "end;end;return y;end;"
            + "function h(x:list[0:?] of logical):integer;var n:integer;n=1;while x[n];n=n+1;end;return n;end;"
            + "function k(x:e):integer;if x then return 1;end;while x;return 1;end;if 1 then return 1;end;"
                + "if [true] then return 1;end;return 2;end;", 1);
        is("f(true)", "1");
        is("f(false)", "2");
        is("f(unknown)", "2");
        is("f(?)", "2");
        is("g(3)", "3");
        is("g(2)", "1");
        is("g(1)", "5");
        is("g(-1)", "4");
        is("h([true,true,false])", "3");
        is("h([true,unknown,true])", "2");
        is("h([true:5])", "6");
        is("h([])", "1");
        is("k(#0)", "2");
    }

    /** "The variable runs from the first one, by by, as long as it is not beyond the second one and within 32 bits." */
    private static void repeats() {
        given("function f(x:integer,y:integer,z:integer):list[0:?] of integer;var r:list[0:?] of integer;r=[];"
            + "repeat i=x to y by z;r=r+[i];end;"
            + "return r;end;function g(x:integer,y:integer):integer;var n:integer;n=0;repeat i=x to y;n=n+1;end;return n;end;"
            + "function h(x:real):integer;repeat i=1 to x;end;return 1;end;function k(x:logical):integer;repeat i=1 to 2 by x;"
                + "end;return 1;end;"
            + "function m(x:real):integer;repeat i=x to 2;end;return 1;end;");
        String[][] runs = {{"1", "3", "1", "1,2,3"}, {"3", "3", "1", "3"}, {"4", "3", "1", ""}, {"1", "4", "2", "1,3"},
            {"1", "5", "2", "1,3,5"}, {"3", "1", "-1", "3,2,1"}, {"3", "3", "-1", "3"}, {"3", "4", "-1", ""},
            {"5", "1", "-3", "5,2"}, {"-1", "1", "1", "-1,0,1"}, {MOST + "-2", MOST, "1", "2147483645,2147483646,2147483647"},
            {MOST + "-2", MOST, "2", "2147483645,2147483647"}, {MOST + "-1", MOST, "2", "2147483646"},
            {MOST, MOST, MOST, "2147483647"}, {LEAST, LEAST, "-1", "-2147483648"},
            {LEAST + "+1", LEAST, "-1", "-2147483647,-2147483648"}, {LEAST + "+1", LEAST, "-2", "-2147483647"},
            {"0", LEAST, LEAST, "0,-2147483648"}, {LEAST, MOST, MOST, "-2147483648,-1,2147483646"},
            {"0", MOST, MOST, "0,2147483647"}, {"1", "0", MOST, ""}};
        for (String[] run : runs) {
            is("f(" + run[0] + "," + run[1] + "," + run[2] + ")", run[3].isEmpty() ? "L1:0[]" : "L1:1[" + run[3] + "]");
        }
        is("f(1,3,0)", "?");
        is("f(3,1,0)", "?");
        is("f(?,3,1)", "?");
        is("f(1,?,1)", "?");
        is("f(1,3,?)", "?");
        is("g(1,3)", "3");
        is("g(3,1)", "0");
        is("h(2)", "?");
        is("k(true)", "?");
        is("m(1)", "?");
    }

    /** "escape leaves the innermost repeat or while, skip continues with its next turn; outside of one the function ends" */
    private static void loopsInLoops() {
        given("function a():integer;var s:integer;s=0;repeat i=1 to 5;repeat j=1 to 2;end;while false;end;if i=3 then escape;end;"
            + "s=s*10+i;end;return s;end;"
            + "function b():integer;var s:integer;s=0;repeat i=1 to 5;repeat j=1 to 2;end;while false;end;if i=3 then skip;end;"
                + "s=s*10+i;end;return s;end;"
            + "function d():integer;var s:integer;s=0;while s<100;s=s+7;repeat j=1 to 9;if j=2 then escape;end;s=s+j;end;"
                + "if s>30 then escape;end;end;return s;end;"
            + "function e():integer;var s:integer;s=0;while s<100;s=s+7;repeat j=1 to 3;if j=2 then skip;end;s=s+j;end;"
                + "if s<90 then skip;end;s=s+1000;end;return s;end;"
            + "function f():integer;repeat i=1 to 2;end;escape;return 1;end;function g():integer;while false;end;skip;return 1;"
                + "end;");
        is("a()", "12");
        is("b()", "1245");
        is("d()", "32");
        is("e()", "1099");
        is("f()", "?");
        is("g()", "?");
    }
}
