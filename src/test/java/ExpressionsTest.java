/** Promise 17: what expressions give. */
public final class ExpressionsTest {
    private static final Checks c = new Checks();

    public static void main(String[] args) {
        c.given("type col=enum(red,green,blue);end;type dir=enum(left,right);end;"
            + "entity a;i:integer;r:real;k:col;p:a;ar:array[2:4] of integer;se:set[0:?] of integer;s2:set[0:?] of real;"
            + "ba:bag[0:?] of integer;aa:array[0:?] of a;end;entity b under a;q:logical;end;");
        numbers();
        reals();
        wholes();
        logicals();
        order();
        equality();
        functions();
        roundings();
        lists();
        aggregates();
        queries();
        instances();
        alikeInstances();
        spent();
        Checks.end("ExpressionsTest");
    }

    private static void is(String exp, String want) {
        Checks.due(exp, c.value(exp), want);
    }

    private static void numbers() {
        is("1+2*3-4", "3");
        is("7-2-1", "4");
        is("1+2.5", "3.5");
        is("2*1.5", "3.0");
        is("0.1+0.2", "0.30000000000000004");
        is("123456.123456", "123456.123456");
        is("6/4", "1.5");
        is("6/3", "2.0");
        is("(-7) div 2", "-3");
        is("(-7) mod 2", "-1");
        is("7 mod (-2)", "1");
        is("-7 mod 2", "-1");
        is("7 div 0", "?");
        is("7 mod 0", "?");
        is("7.0 div 2", "?");
        is("7 mod 2.0", "?");
        is("true+1", "?");
        is("1+?", "?");
        is("-true", "?");
        is("-(3)", "-3");
        is("1+-2", "-1");
        is("1--2", "3");
        is("2*-3", "-6");
        is("-2*3", "-6");
        is("1<-2", "f");
        is("not true=false", "t");
        is("1.5.i", "?");
        is("-1.5", "-1.5");
        is("red+1", "?");
    }

    private static void reals() {
        is("1/0", "Infinity");
        is("-1/0", "-Infinity");
        is("0/0", "NaN");
        is("1/0-1/0", "NaN");
        is("1/0+1", "Infinity");
        is("0.0*(1/0)", "NaN");
        is("(1/0)/(1/0)", "NaN");
        is("1/(1/0)", "0.0");
        is("-0.0", "-0.0");
        is("0*(-1)", "0");
        is("0.0*(-1)", "-0.0");
        is("0.0-0.0", "0.0");
        is("-0.0-0", "-0.0");
        is("-(0/0)", "NaN");
        is("1/3", "0.3333333333333333");
        is("0.000001*0.000001", "1.0E-12");
        is("999999.0*999999999", "9.99998999000001E14");
        c.work("0/0");
        Checks.due("the bits of a NaN", c.house.bits(-3), 0x7ff8000000000000L);
        c.work("-(0/0)");
        Checks.due("the bits of a NaN", c.house.bits(-3), 0x7ff8000000000000L);
    }

    private static void wholes() {
        String most = "(999999999*2+147483649)";
        is(most, "2147483647");
        is(most + "+1", "?");
        is("-" + most + "-1", "-2147483648");
        is("-" + most + "-2", "?");
        is("-(-" + most + "-1)", "?");
        is("abs(-" + most + "-1)", "?");
        is("(-" + most + "-1) div (-1)", "?");
        is("(-" + most + "-1) mod (-1)", "0");
        is("65536*65536", "?");
        is("65536*32768", "?");
        is("65536*(-32768)", "-2147483648");
    }

    private static void logicals() {
        String[] names = {"false", "unknown", "true", "?"};
        int[] truth = {0, 1, 2, 1};
        for (int x = 0; x < 4; x++) {
            is("not " + names[x], "fut".charAt(2 - truth[x]) + "");
            for (int y = 0; y < 4; y++) {
                is(names[x] + " and " + names[y], "fut".charAt(Math.min(truth[x], truth[y])) + "");
                is(names[x] + " or " + names[y], "fut".charAt(Math.max(truth[x], truth[y])) + "");
                boolean open = truth[x] == 1 || truth[y] == 1;
                is(names[x] + " xor " + names[y], open ? "u" : truth[x] != truth[y] ? "t" : "f");
            }
        }
        is("1 and true", "?");
        is("true or 1", "?");
        is("false and []", "?");
        is("not 1", "?");
        is("true or false and false", "t");
        is("(true or false) and false", "f");
    }

    private static void order() {
        is("1<2", "t");
        is("2<2", "f");
        is("2<=2.0", "t");
        is("3>2.5", "t");
        is("2>=2.5", "f");
        is("0/0<1", "f");
        is("1>=0/0", "f");
        is("false<unknown", "t");
        is("unknown<true", "t");
        is("unknown<=unknown", "t");
        is("red<blue", "t");
        is("blue<=green", "f");
        is("red<left", "?");
        is("1<true", "?");
        is("red<1", "?");
        is("[1]<[2]", "?");
        is("1<?", "u");
        is("?>=1", "u");
        is("true in ?", "u");
        is("0.0<(-0.0)", "f");
    }

    private static void equality() {
        is("1=1.0", "t");
        is("1<>1.0", "f");
        is("0.0=(-0.0)", "t");
        is("0=(-0.0)", "t");
        is("4096.0=0", "f");
        is("65536.0=65536", "t");
        is("65536.5=65536", "f");
        is("0.5=0", "f");
        is("0.0=1", "f");
        is("2.0=0.0", "f");
        is("0=2.0", "f");
        is("999999.0*999999=0", "f");
        is("-65536=(-65536.0)", "t");
        is("65536=(-65536.0)", "f");
        is("0/0=0/0", "f");
        is("0/0<>0/0", "t");
        is("1/0=1/0", "t");
        is("1:=:1", "t");
        is("true=true", "t");
        is("true=false", "f");
        is("true=unknown", "u");
        is("unknown=unknown", "u");
        is("unknown<>false", "u");
        is("unknown:=:unknown", "u");
        is("red=red", "t");
        is("red=left", "f");
        is("red<>left", "t");
        is("red=1", "?");
        is("true=1", "?");
        is("?=?", "u");
        is("1<>?", "u");
        is("[1,2]=[1,2.0:1]", "u");
        is("[1,2]=[1.0,2.0]", "t");
        is("[1,2]=[2,1]", "f");
        is("[1,2]<>[1]", "t");
        is("[]=[]", "t");
        is("[unknown]=[unknown]", "t");
        is("[0/0]=[0/0]", "f");
        is("[1]=1", "?");
    }

    private static void functions() {
        is("abs(-3)", "3");
        is("abs(-0.0)", "0.0");
        is("abs(true)", "?");
        is("sign(-5)", "-1");
        is("sign(0)", "0");
        is("sign(7)", "1");
        is("sign(-2.5)", "-1.0");
        is("sign(1/0)", "1.0");
        is("sign(-0.0)", "-0.0");
        is("sign(0/0)", "NaN");
        is("odd(-3)", "t");
        is("odd(4)", "f");
        is("odd(3.0)", "?");
        is("exists(?)", "f");
        is("exists([])", "t");
        is("exists(unknown)", "t");
        is("nvl(?,5)", "5");
        is("nvl(4,5)", "4");
        is("nvl(?,?)", "?");
        is("copysign(3,-1)", "-3.0");
        is("copysign(-3.5,0)", "3.5");
        is("copysign(1,-0.0)", "-1.0");
        is("copysign(-1,0/0)", "1.0");
        is("copysign(-1,-(0/0))", "1.0");
        is("copysign(0/0,-1)", "NaN");
        is("copysign(true,1)", "?");
        is("min(3,2)", "2");
        is("max(3,2)", "3");
        is("min(3,2.5)", "2.5");
        is("max(3,2.5)", "3.0");
        is("min(0.0,-0.0)", "-0.0");
        is("max(-0.0,0)", "0.0");
        is("min(0.0,5.0)", "0.0");
        is("max(0.0,5.0)", "5.0");
        is("max(-5.0,0)", "0.0");
        is("min(-5.0,-0.0)", "-5.0");
        is("max(1,0/0)", "NaN");
        is("min(0/0,1)", "NaN");
        is("min(red,1)", "?");
        is("sizeof([4,5,6])", "3");
        is("lowindex([4,5,6])", "1");
        is("highindex([4,5,6])", "3");
        is("highindex([])", "0");
        is("sizeof(3)", "?");
        is("lowindex(?)", "?");
        is("highindex(red)", "?");
    }

    private static void roundings() {
        is("floor(2.5)", "2.0");
        is("floor(-2.5)", "-3.0");
        is("floor(-0.0)", "-0.0");
        is("floor(0.5)", "0.0");
        is("floor(7)", "7.0");
        is("ceil(2.5)", "3.0");
        is("ceil(-2.5)", "-2.0");
        is("ceil(-0.5)", "-0.0");
        is("ceil(3.0)", "3.0");
        is("rint(2.5)", "2.0");
        is("rint(3.5)", "4.0");
        is("rint(-2.5)", "-2.0");
        is("rint(-0.5)", "-0.0");
        is("rint(0.500001)", "1.0");
        is("floor(1/0)", "Infinity");
        is("ceil(0/0)", "NaN");
        is("rint(999999.5*999999)", "9.999985E11");
        is("floor(true)", "?");
    }

    private static void lists() {
        is("[]", "L1:0[]");
        is("[1,2]", "L1:1[1,2]");
        is("[1.5]", "L1:2[1.5]");
        is("[true,unknown]", "L1:3[t,u]");
        is("[red,right]", "L1:4[i0,i4]");
        is("[1:3,2]", "L1:1[1,1,1,2]");
        is("[1:0,2.5]", "L1:2[2.5]");
        is("[1:0]", "L1:0[]");
        is("[?:0,[]:0,1]", "L1:1[1]");
        is("[1,1.5]", "?");
        is("[1,?]", "?");
        is("[[1]]", "?");
        is("[1:?]", "?");
        is("[1:1.0]", "?");
        is("[1:(0-1)]", "?");
        is("sizeof([1:24])", "24");
        is("[1:25]", "?");
        is("[1:12,2:13]", "?");
        is("[1:999999999]", "?");
        is("[1,2,3][2]", "2");
        is("[1,2,3][0]", "?");
        is("[1,2,3][4]", "?");
        is("[1,2,3][2.0]", "?");
        is("5[1]", "?");
        is("[7][1]", "7");
        is("[1,2]+[3]", "L1:1[1,2,3]");
        is("[1]+[]", "L1:1[1]");
        is("[]+[red]", "L1:4[i0]");
        is("[1]+[1.5]", "?");
        is("sizeof([1:12]+[1:12])", "24");
        is("[1:12]+[1:13]", "?");
        is("[1]*[1]", "?");
        is("[1]-[1]", "?");
        is("[1]/[1]", "?");
        is("[1]+1", "?");
        is("2 in [1,2]", "t");
        is("2.0 in [1,2]", "t");
        is("3 in [1,2]", "f");
        is("red in [1,2]", "f");
        is("[1] in [1]", "f");
        is("unknown in [unknown]", "t");
        is("1 in 1", "?");
        is("0/0 in [0/0]", "f");
    }

    private static void aggregates() {
        c.house.make(1);
        c.house.make(3);
        c.set(0, 4, "[5,6,7]");
        c.set(0, 5, "[1,2,3]");
        c.set(1, 5, "[3,4]");
        c.set(0, 6, "[2.0,5.5]");
        c.set(0, 7, "[1,1,2]");
        c.set(1, 7, "[2,1,1]");
        is("#0.ar", "A2:1[5,6,7]");
        is("#0.ar[2]", "5");
        is("#0.ar[1]", "?");
        is("#0.ar[5]", "?");
        is("lowindex(#0.ar)", "2");
        is("highindex(#0.ar)", "4");
        is("#0.ar+#0.ar", "?");
        is("#0.ar=[5,6,7]", "f");
        is("#0.se", "S1:1[1,2,3]");
        is("#0.se+#1.se", "S1:1[1,2,3,4]");
        is("#0.se*#1.se", "S1:1[3]");
        is("#0.se-#1.se", "S1:1[1,2]");
        is("#1.se-#0.se", "S1:1[4]");
        is("#0.se*#0.s2", "S1:1[2]");
        is("#0.s2*#0.se", "S1:2[2.0]");
        is("#0.s2-#0.se", "S1:2[5.5]");
        is("#0.se+#0.s2", "?");
        is("#0.se/#1.se", "?");
        is("#0.se+[1]", "?");
        is("#0.se-#0.se", "S1:1[]");
        is("#0.se-#0.se+#0.s2", "?");
        is("#0.ba", "B1:1[1,1,2]");
        is("#0.ba+#1.ba", "B1:1[1,1,2,2,1,1]");
        is("#0.ba*#1.ba", "?");
        is("#0.ba=#1.ba", "t");
        is("#0.ba<>[1,1,2]", "t");
        is("3 in #1.se", "t");
        is("#0.se=#1.se", "f");
    }

    private static void queries() {
        is("query(q<*[1,2,3,4]|odd(q))", "L1:1[1,3]");
        is("query(q<*#0.ar|q>5)", "L1:1[6,7]");
        is("query(q<*#0.se|q>1)", "S1:1[2,3]");
        is("query(q<*#0.ba|q<2)", "B1:1[1,1]");
        is("query(q<*[1,2]|q>5)", "L1:1[]");
        is("query(q<*[]|true)", "L1:0[]");
        is("query(q<*[1,2]|1)", "L1:1[]");
        is("query(q<*[1,2]|unknown)", "L1:1[]");
        is("query(q<*5|true)", "?");
        is("query(q<*?|true)", "?");
        is("query(q<*[1,2,3]|sizeof(query(w<*[1,2,3]|w<q))>0)", "L1:1[2,3]");
        is("query(q<*[1,2,3]|sizeof(query(q<*[1,2,3]|q>1))=q)", "L1:1[2]");
        is("query(red<*[1,2,3]|red=2)", "L1:1[2]");
        is("query(q<*query(q<*[1,2,3]|q>1)|q<3)", "L1:1[2]");
        c.house.read();
        c.set(0, 8, "[#0,#1]");
        c.read("#5=a($,$,$,$,($,3,$),$,$,$,($,#5));");
        is("#2.ar", "A2:1[?,3,?]");
        is("query(q<*#2.ar|true)", "L1:1[3]");
        is("query(q<*#2.aa|exists(q))", "L1:5[#2]");
        is("? in #2.ar", "u");
        is("#2.ar[2]", "?");
        is("exists(#2.ar[3])", "t");
        c.house.drop(2);
    }

    private static void instances() {
        c.set(0, 3, "#1");
        c.set(1, 3, "#1");
        c.set(1, 9, "true");
        c.set(1, 0, "8");
        is("#0", "#0");
        is("#2", "?");
        is("#7", "?");
        is("#999999999", "?");
        is("a", "S1:5[#0,#1]");
        is("b", "S1:5[#1]");
        is("red", "i0");
        is("#0.p.i", "8");
        is("#0.i", "?");
        is("#0.p.p.p.q", "t");
        is("#0.q", "?");
        is("5 .i", "?");
        is("a.i", "?");
        is("?.i", "?");
        is("#0:=:#0", "t");
        is("#0:=:#1", "f");
        is("#0=1", "?");
        is("usedin(#1)", "B1:5[#0,#0,#1]");
        is("usedin(#0)", "B1:5[#0]");
        is("usedin(1)", "?");
        is("#1 in a", "t");
        is("#0 in b", "f");
        is("a-b", "S1:5[#0]");
        c.given("entity a;p:list[0:?] of a;s:a;end;");
        c.house.make(1);
        c.set(0, 0, "[#0:2]");
        c.set(0, 1, "#0");
        is("usedin(#0)", "B1:5[#0,#0]");
        for (int x = 1; x < 24; x++) {
            c.house.make(1);
            c.set(x, 0, "[#0]");
        }
        is("sizeof(a)", "24");
        is("usedin(#0)", "?");
        c.set(5, 0, "[]");
        c.house.make(1);
        is("a", "?");
        is("sizeof(usedin(#0))", "24");
    }

    private static void alikeInstances() {
        c.given("entity a;n:integer;p:a;s:set[0:?] of a;r:real;derive d:integer=1;end;entity b under a;end;");
        c.house.make(1);
        c.house.make(1);
        c.house.make(1);
        c.house.make(3);
        is("#0=#1", "t");
        is("#0:=:#1", "f");
        is("#0=#3", "f");
        c.set(0, 0, "1");
        is("#0=#1", "f");
        is("#1=#2", "t");
        c.set(1, 0, "1");
        c.set(2, 0, "2");
        // a circle of two and a circle of one
        c.set(0, 1, "#1");
        c.set(1, 1, "#1");
        is("#0=#1", "t");
        c.set(1, 1, "#0");
        is("#0=#1", "t");
        c.set(1, 1, "#2");
        is("#0=#1", "f");
        c.set(1, 1, "#1");
        c.set(0, 2, "[#2,#0]");
        c.set(1, 2, "[#1,#2]");
        is("#0=#1", "t");
        is("#0 in [#1]", "t");
        is("[#0,#2]=[#1,#2]", "t");
        c.set(0, 3, "0/0");
        c.set(1, 3, "0/0");
        is("#0=#1", "f");
        is("#0=#0", "t");
        c.set(0, 3, "1/0");
        c.set(1, 3, "1/0");
        is("#0=#1", "t");
        is("a-[]", "?");
    }

    private static void spent() {
        c.house.steps(5);
        is("1+2*3", "7");
        Checks.due("steps", c.house.count(11), 5);
        Checks.due("spent", c.work("1+2*3<4"), ExpressHouse.SPENT);
        Checks.due("steps of a spent run", c.house.count(11), 5);
        Checks.due("the hand stays", c.hand(), "7");
        Checks.due("the fault of a spent text", c.house.fault(), 0);
        Checks.due("the tape is empty", c.house.count(9), 0);
        Checks.due("brackets are no nodes", c.work("(((1)+(2)))"), 1);
        Checks.due("steps", c.house.count(11), 3);
        c.work("#0.p.n");
        Checks.due("steps of a part", c.house.count(11), 3);
        c.work("query(q<*[]|1)");
        Checks.due("steps of a query", c.house.count(11), 2);
        c.work("query(q<*[1]|1)");
        Checks.due("steps of a query", c.house.count(11), 4);
        c.work("not (1)");
        Checks.due("steps of not", c.house.count(11), 2);
        c.work("nvl(1,2)");
        Checks.due("steps of a call", c.house.count(11), 3);
    }
}
