/** What was read or evaluated before leaves nothing behind: each text answers as in a new house (promises 4, 15, 17, 34). */
public final class SecondUseTest {
    private static final String FULL = "schema s;type k=enum(i,j,m,n);end;type num=integer;where self>0;end;"
        + "type pick=select(num,a);end;"
        + "type li=list[1:2] of num;where sizeof(self)=1;end;entity a abstract over oneof(b,c and d);x:num;y:optional pick;"
        + "derive z:integer=x+1;inverse v:e for p[1:1];unique x;x,y;where x<5;z>2;end;entity b under a;w:li;unique w;end;"
            + "entity c under a;end;"
        + "entity d under a;where false;end;entity e;p:a;q:set[0:2] of k;ar:array[1:2] of real;end;"
            + "function f(p1:integer,p2:real):real;"
        + "var v1:integer;v1=p1;repeat r=1 to 3;v1=v1+r;end;return v1+p2;end;rule r1;where sizeof(e)<2;end;rule r2;where unknown;"
            + "end;end;";
    private static final String OTHER = "schema s;entity e;q:real;p:integer;end;entity d over c;r:list[0:?] of e;"
        + "derive z:integer=7;where z>1;end;"
        + "entity c under d,e;x:integer;end;type num=enum(b,a);end;function g(v1:integer):integer;while v1<9;v1=v1+1;end;"
            + "return v1;end;"
        + "rule r1;where c=[];end;end;";
    private static final String MANY = "schema s;" + Checks.repeated("type t@=real;end;", 8) + "entity e0;"
        + Checks.repeated("a@:t0;", 40)
        + "end;" + Checks.repeated("entity f@ under e0;end;", 11) + Checks.repeated("function g@(x:integer):integer;return x+@;"
            + "end;", 6)
        + Checks.repeated("rule r@;where @=0;end;", 4) + "end;";
    private static final String[] SCHEMAS = {FULL, OTHER, MANY, "schema s;end;", "schema s;entity a;end;end;"};
    private static final String[] FAULTY = {"schema s;type t=list[0:1] of u;end;type u=set[0:1] of t;end;end;",
        "schema s;entity a under b;end;entity b under a;end;end;",
        "schema s;rule r;where (((((((((1", "schema s;rule r;where query(q<*[1]|-query(w<*",
            "schema s;function f(a:real,b:real):real;repeat i=1 to 2;while 1;",
        "schema s;entity a over oneof((b andor", "", "%"};

    public static void main(String[] args) {
        schemaBehindSchemas();
        textBehindTexts();
        fileBehindFiles();
        Checks.end("SecondUseTest");
    }

    /** All that a schema says, and what its functions and rules answer. */
    private static String seen(Checks c) {
        StringBuilder text = new StringBuilder();
        for (int what = 0; what <= 10; what++) {
            text.append(c.house.count(what)).append(' ');
        }
        for (int sort = -1; sort < 6; sort++) {
            for (int i = 0; i < 41; i++) {
                text.append(c.name(sort, i)).append(' ');
            }
        }
        for (int i = 0; i < 41; i++) {
            for (int what = 0; what < 8; what++) {
                text.append(c.house.entity(i, what)).append(' ').append(c.house.attribute(i, what)).append(' ');
            }
            text.append(c.house.combinations(i)).append(' ').append(c.house.allowed(i)).append(' ');
        }
        for (int x = 0; x < 4; x++) {
            text.append(c.house.make(x % 2 == 0 ? 3 : 16)).append(c.house.row(x)).append(' ');
        }
        String[] exps = {"1", "[1]", "#0", "[#0,#1]", "1.5", "[1.5,2.5]", "i", "[b]"};
        for (int a = 0; a < 41; a++) {
            for (String exp : exps) {
                text.append(c.set(0, a, exp)).append(c.set(1, a, exp)).append(' ');
            }
            text.append(c.got(0, a)).append(c.got(1, a)).append(' ');
        }
        exps = new String[] {"f(1,2)", "g(3)", "g5(1)", "a", "b", "e", "j", "usedin(#0)", "#0.z", "#1.v", "sizeof(c)", "#0.x=1",
            "k", "num"};
        for (String exp : exps) {
            text.append(c.value(exp)).append(' ');
        }
        for (int r = 0; r < c.house.count(5) + 1; r++) {
            text.append(c.house.rule(r, 0)).append(c.house.rule(r, 1)).append(c.house.judge(r)).append(c.house.judged(0,
                0)).append(' ');
        }
        c.house.write();
        return text.append(c.output()).append(c.read("#1=e($,$,$);")).append(c.house.told(1)).toString();
    }

    private static void schemaBehindSchemas() {
        for (String last : SCHEMAS) {
            Checks fresh = new Checks();
            Checks.due("schema", fresh.schema(last) >= 0 ? 1 : 0, 1);
            String want = seen(fresh);
            for (String first : SCHEMAS) {
                for (String second : SCHEMAS) {
                    Checks c = new Checks();
                    c.schema(first);
                    c.schema(second);
                    c.schema(last);
                    Checks.due("a third schema", seen(c), want);
                }
                for (String faulty : FAULTY) {
                    Checks c = new Checks();
                    c.schema(first);
                    seen(c);
                    c.schema(faulty);
                    Checks.due("a fault", c.house.fault() > 0 ? 1 : 0, 1);
                    c.schema(last);
                    Checks.due("a schema behind a faulty one", seen(c).replaceFirst("^(\\S+ ){11}", ""),
                        want.replaceFirst("^(\\S+ ){11}", ""));
                    c.schema(faulty);
                    c.schema(first);
                    c.schema(last);
                    Checks.due("a schema behind a faulty one", seen(c).replaceFirst("^(\\S+ ){11}", ""),
                        want.replaceFirst("^(\\S+ ){11}", ""));
                }
            }
        }
    }

    private static void textBehindTexts() {
        String schema = "schema s;entity a;x:integer;l:list[0:?] of integer;end;type k=enum(i,j);end;"
            + "function f(n:integer):integer;var v:integer;"
            + "repeat i=1 to n;v=query(q<*[1,2,3]|q<i)[1];if i=2 then return f(n-1);end;end;return v;end;function w():integer;"
                + "while true;end;end;"
            + "function n():integer;var v:integer;return v;end;end;";
        String[] texts = {"1", "f(1)", "f(2)", "f(9)", "w()", "n()", "query(q<*[1,2,3]|q>1)", "query(q<*[1,2]|w())",
            "query(q<*[1,2]|query(r<*[q,3]|r=q)=[q])",
            "[1:24]", "[1:25]", "[1,2:3", "(((((((((1", "query(q<*[1]|query(q<*", "zz", "q", "self", "%", "", "-(-(-(-1)))",
                "[f(1),w()]", "nvl(?,f(1))", "#0.x", "a",
            "f(1,2)", "not (not (not true))", "1+2*3-4 div 5", "[1.5,2.5][2]", "usedin(#0)", "i", Checks.repeated("1+", 299) + "1"};
        String[] want = new String[texts.length];
        for (int i = 0; i < texts.length; i++) {
            Checks c = new Checks();
            c.schema(schema);
            c.house.make(1);
            want[i] = c.value(texts[i]) + " " + c.house.fault() + " " + c.house.count(11);
        }
        for (int i = 0; i < texts.length; i++) {
            Checks c = new Checks();
            c.schema(schema);
            c.house.make(1);
            for (int j = 0; j < texts.length && c.house.count(12) < 18000; j++) {
                c.value(texts[i]);
                int run = c.house.count(11);
                String got = c.value(texts[j]) + " " + c.house.fault() + " " + (c.house.fault() > 0 ? 0 : c.house.count(11));
                Checks.due(texts[j] + " behind " + texts[i], got, want[j]);
                Checks.due("a text with a fault is no run", c.house.fault() > 0 ? c.house.count(11) : run, run);
                c.house.get(0, 0);
                Checks.due("a run of no steps", c.house.count(11), 0);
            }
        }
    }

    private static void fileBehindFiles() {
        String schema = "schema s;type k=enum(i,j);end;entity a;x:integer;l:array[0:1] of integer;end;entity b;y:set[0:?] of a;"
            + "k1:k;end;end;";
        String[] files = {"#1=a(1,(1,$));#2=b((#1),.j.);", "#2=b((#3,#1),$);#1=a($,($,$));#3=a(7,$);", "#1=a(1,(1,2));#1=a(2,$);",
            "#5=b((#6),.i.);",
            "#1=a(1,(1,2", "", "#1=zz();", "#7=b((),.zz.);", "#1=(a(1,$));#2=(b($,$));"};
        String[] want = new String[files.length];
        for (int i = 0; i < files.length; i++) {
            Checks c = new Checks();
            c.schema(schema);
            want[i] = fileSeen(c, files[i]);
        }
        for (int i = 0; i < files.length; i++) {
            for (int j = 0; j < files.length; j++) {
                Checks c = new Checks();
                c.schema(schema);
                c.house.begin();
                c.read(files[i]);
                c.house.abort();
                c.read("");
                Checks.due(files[j] + " behind " + files[i], fileSeen(c, files[j]), want[j]);
            }
        }
    }

    private static String fileSeen(Checks c, String file) {
        StringBuilder text = new StringBuilder();
        text.append(c.read(file)).append(' ').append(c.house.fault()).append(' ').append(c.house.count(7));
        for (int n = 0; n < 9; n++) {
            text.append(' ').append(c.house.told(n));
        }
        c.house.write();
        return text.append(c.output()).toString();
    }
}
