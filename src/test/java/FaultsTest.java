/** Promises 4, 5 and 17: the faults of texts, with their places, and the limits of texts. */
public final class FaultsTest {
    private static final Checks c = new Checks();

    public static void main(String[] args) {
        noTokens();
        grammar();
        names();
        meanings();
        circles();
        orderOfFaults();
        limitsOfNumbers();
        limitsOfStatements();
        limitsOfExpressions();
        Checks.end("FaultsTest");
    }

    /** The fault of "schema s;" + text, with the place counted from the text on. */
    private static void schemaIs(String text, String want) {
        Checks.due("schema s;" + text, c.partsFault(text), want);
    }

    private static void workIs(String text, String want) {
        Checks.due(text, c.workFault(text), want);
    }

    private static void noTokens() {
        workIs("1 $", "1@2");
        workIs("A", "1@0");
        workIs("1+\t2", "1@2");
        workIs("1+" + (char) 233, "1@2");
        workIs("123456789", "fine");
        workIs("1234567890", "1@0");
        workIs("123456.123456", "fine");
        workIs("1234567.1", "1@0");
        workIs("1+1.1234567", "1@2");
        workIs("exists(abcdefghijklm)", "1@7");
        workIs("1.5e", "2@3");
        workIs("1.x", "4@2");
        workIs("1 div2", "2@2");
        workIs("1 div 2", "fine");
        workIs("1:2", "2@1");
        workIs("1<*2", "2@1");
        workIs("1<>2", "fine");
        workIs("1< >2", "2@3");
        workIs("\n 1\n", "fine");
        workIs("!", "1@0");
        workIs(")!", "2@0");
    }

    private static void grammar() {
        Checks.due("empty", c.schemaFault(""), "2@0");
        Checks.due("blank", c.schemaFault("  "), "2@2");
        Checks.due("no end", c.schemaFault("schema s;end"), "2@12");
        Checks.due("more behind the end", c.schemaFault("schema s;end; end"), "2@14");
        Checks.due("bad behind the end", c.schemaFault("schema s;end; %"), "1@14");
        Checks.due("keyword as a name", c.schemaFault("schema list;end;"), "2@7");
        schemaIs("type t=integer;where end;end;", "fine");
        schemaIs("type t=enum();end;end;", "2@12");
        schemaIs("type t=select(u,);end;end;", "2@16");
        schemaIs("type t=list of real;end;end;", "2@12");
        schemaIs("type t=list[1.5:2] of real;end;end;", "2@12");
        schemaIs("type t=list[1:2] of list[0:1] of real;end;end;", "2@20");
        schemaIs("entity e under over x;end;end;", "2@15");
        schemaIs("entity e over x under y;end;end;", "2@16");
        schemaIs("entity e;a:optional optional real;end;end;", "2@20");
        schemaIs("entity e;inverse derive end;end;", "2@17");
        schemaIs("entity e;derive a:real;end;end;", "2@22");
        schemaIs("entity e;unique where unique end;end;", "2@22");
        schemaIs("entity e;where 1 end;end;", "2@17");
        schemaIs("entity a;end;entity b;inverse i:a for x;end;end;", "2@39");
        schemaIs("rule r;end;end;", "2@7");
        schemaIs("function f():real;x[1]+1;end;end;", "2@22");
        schemaIs("function f():real;if 1 else end;end;end;", "2@23");
        schemaIs("function f():real;skip end;end;", "2@23");
        schemaIs("function f();end;end;", "2@12");
        schemaIs("function f(a:real,):real;end;end;", "2@18");
        schemaIs("var x:real;end;", "2@0");
        workIs("", "2@0");
        workIs("  ", "2@2");
        workIs("1 2", "2@2");
        workIs("1<2<3", "2@3");
        workIs("--1", "2@1");
        workIs("not -1", "2@4");
        workIs("1-(-1)", "fine");
        workIs("[1,]", "2@3");
        workIs("[1:2:3]", "2@4");
        workIs("abs(1,)", "2@6");
        workIs("# 1", "fine");
        workIs("#x", "2@1");
        workIs("#1.5", "2@1");
        workIs("query(1<*[]|1)", "2@6");
        workIs("query(q<*1=1|1)", "2@10");
        workIs("query(q<*1|1=1)", "fine");
    }

    private static void names() {
        schemaIs("type a=real;end;entity a;end;end;", "3@23");
        schemaIs("type a=enum(a);end;end;", "3@12");
        schemaIs("function abs():real;end;end;", "3@9");
        schemaIs("rule nvl;where end;end;", "3@5");
        schemaIs("rule x;where end;rule x;where end;end;", "3@22");
        schemaIs("entity e;abs:real;e:real;s:real;end;end;", "fine");
        schemaIs("entity e;x:real;derive x:real=1;end;end;", "3@23");
        schemaIs("entity e;x:real;end;entity f;inverse x:e for x[0:1];end;end;", "3@37");
        schemaIs("function f(x:real,x:real):real;end;end;", "3@18");
        schemaIs("function f(x:real):real;var x:real;end;end;", "3@28");
        schemaIs("function f(f:real):real;var abs:real;end;function g(f:real):real;end;end;", "fine");
        schemaIs("function f():real;repeat i=1 to 2;repeat i=1 to 2;end;end;end;end;", "fine");
    }

    private static void meanings() {
        schemaIs("type t=u;end;end;", "4@7");
        schemaIs("type t=select(f);end;function f():real;end;end;", "4@14");
        schemaIs("type t=list[0:1] of u;end;type u=v;end;type v=bag[0:1] of real;end;end;", "4@20");
        schemaIs("type t=select(u);end;type u=set[0:1] of real;end;end;", "4@14");
        schemaIs("type t=v;end;type v=bag[0:1] of real;end;end;", "fine");
        schemaIs("entity e under x;end;type x=real;end;end;", "4@15");
        schemaIs("entity e under a,b,a;end;entity a;end;entity b;end;end;", "4@19");
        schemaIs("entity e over a;end;entity a;end;end;", "4@14");
        schemaIs("entity e over a and (b andor a);end;entity a under e;end;entity b under e;end;end;", "4@29");
        schemaIs("entity e over a and (b andor oneof(c));end;entity a under e;end;entity b under e;end;"
            + "entity c under e;end;end;", "fine");
        schemaIs("entity a under e;end;entity e over oneof(a,a);end;end;", "4@43");
        schemaIs("entity e;inverse i:t for a[0:1];end;type t=real;end;end;", "4@19");
        schemaIs("entity e;inverse i:f for b[0:1];end;entity f;a:e;end;end;", "4@25");
        schemaIs("entity e;inverse i:f for a[0:1];end;entity f under g;end;entity g;a:e;end;end;", "4@25");
        schemaIs("entity e;inverse i:f for b[0:1];end;entity f;a:e;derive b:e=a;end;end;", "4@25");
        schemaIs("entity e;unique b;end;end;", "4@16");
        schemaIs("entity e under f;unique b;end;entity f under g;end;entity g;b:real;end;end;", "fine");
        schemaIs("entity e;derive b:real=1;unique b;end;end;", "4@32");
        schemaIs("entity e;where b;end;entity f;b:real;end;end;", "4@15");
        schemaIs("entity e;where self.b;end;entity f;b:real;end;end;", "fine");
        schemaIs("entity e;where self.c;end;end;", "4@20");
        schemaIs("type t=real;where self;end;rule r;where self;end;end;", "4@40");
        schemaIs("type t=real;where b;end;entity f;b:real;end;end;", "4@18");
        schemaIs("function f():real;return self;end;end;", "4@25");
        schemaIs("function f(x:real):real;return x;end;rule r;where f();end;end;", "4@50");
        schemaIs("rule r;where f(1);end;function f(x:real):real;return x;end;end;", "fine");
        schemaIs("rule r;where r;end;end;", "4@13");
        schemaIs("rule r;where t;end;type t=real;end;end;", "4@13");
        schemaIs("function f():real;x=1;end;end;", "4@18");
        schemaIs("function f():real;var x:real;repeat x=1 to 2;x=1;end;end;end;", "4@45");
        schemaIs("function f():real;var x:real;repeat x=x to 2;end;x=1;end;end;", "fine");
        schemaIs("function f():real;repeat i=i to 2;end;end;end;", "4@27");
        schemaIs("rule r;where query(q<*q|1);end;end;", "4@22");
        schemaIs("rule r;where query(q<*[]|q)=q;end;end;", "4@28");
        c.given("entity e;end;type col=enum(red);end;function f(x:real):real;end;");
        workIs("self", "4@0");
        workIs("f", "4@0");
        workIs("f()", "4@0");
        workIs("f(1,2)", "4@0");
        workIs("e(1)", "4@0");
        workIs("abs(1,2)", "4@0");
        workIs("min(1)", "4@0");
        workIs("col", "4@0");
        workIs("1.x", "4@2");
        workIs("[red,e,zz]", "4@7");
        workIs("f(red)", "fine");
    }

    private static void circles() {
        schemaIs("type t=t;end;end;", "6@5");
        schemaIs("type t=list[0:1] of u;end;type u=select(v);end;type v=t;end;end;", "6@5");
        schemaIs("type x=t;end;type t=select(e,t);end;entity e;end;end;", "6@18");
        schemaIs("type t=e;end;entity e;a:t;end;end;", "fine");
        schemaIs("entity e under e;end;end;", "6@7");
        schemaIs("entity x under e;end;entity e under f;end;entity f under e;end;end;", "6@28");
    }

    private static void orderOfFaults() {
        schemaIs("entity e;a:zz;a:real;end;end;", "3@14");
        schemaIs("entity e;a:zz;b:yy;end;end;", "4@11");
        schemaIs("entity e;a:zz;end;%", "1@18");
        schemaIs("entity e;a:zz;end;end", "2@21");
        schemaIs("entity e;where f(zz);end;end;", "4@15");
        schemaIs("entity e;where zz;end;entity e2 under e2;end;end;", "4@15");
        schemaIs("entity e2 under e2;end;entity e;where zz;end;end;", "6@7");
        schemaIs("type t=list[30:2] of %", "5@12");
    }

    private static void limit(String before, String part, int most, String behind, int inPart) {
        schemaIs(before + Checks.repeated(part, most) + behind, "fine");
        int place = (before + Checks.repeated(part, most)).length() + inPart;
        schemaIs(before + Checks.repeated(part, most + 1) + behind, "5@" + place);
    }

    private static void limitsOfNumbers() {
        limit("", "type t@=real;end;", 8, "end;", 5);
        limit("type t=enum(a", ",i@", 19, ");end;end;", 1);
        limit("", "entity e@;end;", 12, "end;", 7);
        limit("entity e;", "a@:real;", 40, "end;end;", 0);
        limit("", "function f@():real;end;", 6, "end;", 9);
        limit("", "rule r@;where end;", 4, "end;", 5);
        limit("function f(a:real", ",p@:real", 3, "):real;end;end;", 1);
        limit("function f(a:real):real;", "var v@:real;", 6, "end;end;", 4);
        limit("entity e;a:real;unique ", "a;", 4, "end;end;", 0);
        limit("rule r;where ", "1;", 6, "end;end;", 0);
        limit("entity e;where ", "-1;", 6, "end;end;", 0);
        schemaIs("type t=list[24:24] of real;end;end;", "fine");
        schemaIs("type t=list[25:?] of real;end;end;", "5@12");
        schemaIs("type t=list[0:25] of real;end;end;", "5@14");
        schemaIs("type t=list[3:2] of real;end;end;", "5@14");
        schemaIs("entity e;a:e;inverse i:e for a[2:1];end;end;", "5@33");
        schemaIs("type t0=real;end;" + Checks.repeated("type u@=real;end;", 7) + "type t0=real;end;end;", "3@141");
    }

    private static void limitsOfStatements() {
        limit("function f():real;", "skip;", 120, "end;end;", 0);
        limit("function f():real;" + Checks.repeated("skip;", 60) + "end;function g():real;", "skip;", 60, "end;end;", 0);
        String five = Checks.repeated("if 1 then ", 5);
        schemaIs("function f():real;" + five + "skip;" + Checks.repeated("end;", 5) + "end;end;", "fine");
        schemaIs("function f():real;" + five + "if 1 then end;" + Checks.repeated("end;", 5) + "end;end;", "fine");
        schemaIs("function f():real;" + five + "if 1 then skip;end;" + Checks.repeated("end;", 5) + "end;end;", "5@78");
        schemaIs("function f():real;" + Checks.repeated("while 1;", 5) + "repeat i=1 to 2;return 1;", "5@74");
    }

    private static void limitsOfExpressions() {
        workIs(Checks.repeated("1+", 300) + "x", "5@600");
        workIs(Checks.repeated("1+", 299) + "1", "fine");
        workIs(Checks.repeated("1+", 299) + "1+1", "5@600");
        workIs("(" + Checks.repeated("1+", 299) + "1)", "fine");
        schemaIs("rule r;where " + Checks.repeated("1+", 299) + "1;1;1;end;end;", "5@615");
        schemaIs("rule r;where " + Checks.repeated("1+", 299) + "1;end;rule q;where 1;1;end;end;", "5@632");
        workIs(Checks.repeated("(", 8) + "1" + Checks.repeated(")", 8), "fine");
        workIs(Checks.repeated("(", 9) + "1" + Checks.repeated(")", 9), "5@8");
        workIs(Checks.repeated("-(", 4) + "1" + Checks.repeated(")", 4), "fine");
        workIs(Checks.repeated("-(", 4) + "-1" + Checks.repeated(")", 4), "5@8");
        workIs(Checks.repeated("-(", 4) + "1-1" + Checks.repeated(")", 4), "fine");
        workIs(Checks.repeated("[", 8) + Checks.repeated("]", 8), "fine");
        workIs(Checks.repeated("[", 9) + Checks.repeated("]", 9), "5@8");
        workIs(Checks.repeated("1[", 9) + "1" + Checks.repeated("]", 9), "5@17");
        workIs(Checks.repeated("abs(", 9) + "1" + Checks.repeated(")", 9), "5@35");
        workIs(Checks.repeated("query(q<*", 8) + "1" + Checks.repeated("|1)", 8), "fine");
        workIs(Checks.repeated("query(q<*", 9) + "1" + Checks.repeated("|1)", 9), "5@72");
        workIs(Checks.repeated("(", 7) + "-1[1]" + Checks.repeated(")", 7), "5@9");
        workIs(Checks.repeated("(", 7) + "-1+1[1]" + Checks.repeated(")", 7), "fine");
        workIs(Checks.repeated("(", 7) + "not true" + Checks.repeated(")", 7), "fine");
        workIs(Checks.repeated("(", 8) + "not true" + Checks.repeated(")", 8), "5@8");
        schemaIs("function f(x:list[0:?] of real):real;x[" + Checks.repeated("(", 8) + "1" + Checks.repeated(")", 8) + "]=1;end;end;", "fine");
        schemaIs("entity s under e;end;entity e over " + Checks.repeated("(", 8) + "s" + Checks.repeated(")", 8) + ";end;end;", "fine");
        schemaIs("entity s under e;end;entity e over " + Checks.repeated("oneof(", 8) + "(s" + Checks.repeated(")", 9) + ";end;end;", "5@83");
    }
}
