/** Section 1: the groups of names (number 3), what names mean (number 4), and circles (number 6). */
public final class MeaningsTest {
    private static final Checks c = new Checks();
    private static final String[] BUILT_IN = {"abs", "floor", "ceil", "rint", "sign", "sizeof", "lowindex", "highindex", "exists",
        "usedin", "odd", "copysign", "min", "max", "nvl"};
    /** One of each sort; behind it stands what uses one of these names. */
    private static final String ALL_SORTS = "type ty=real;end;type en=enum(it);end;type ag=list[0:1] of real;end;entity ee;at:real;"
        + "derive de:real=1;inverse iv:ef for rf[0:1];end;entity ef;rf:ee;end;function fu(pa:real):real;var va:real;end;"
        + "rule ru;where end;";
    private static final String NAMES = "ty en it ag ee ef at de iv rf fu pa va ru s abs nvl zz";

    public static void main(String[] args) {
        oneGroup();
        groupOfAttributes();
        groupOfEachFunction();
        kinds();
        aggregatesAsItems();
        entities();
        inverses();
        uniques();
        namesInExpressions();
        selves();
        numbersOfArguments();
        assignments();
        firstThatExists();
        circlesOfTypes();
        circlesOfEntities();
        lowestPlace();
        Checks.end("MeaningsTest");
    }

    private static void partsIs(String parts, String want) {
        Checks.due(parts, c.partsFault(parts), want);
    }

    /** "The names of types, items, entities, functions and rules, and of the built-in functions, are one group" */
    private static void oneGroup() {
        String[] sorts = {"type N=real;end;", "type tt@=enum(N);end;", "entity N;end;", "function N():real;end;",
            "rule N;where end;"};
        for (int a = 0; a < sorts.length; a++) {
            String first = sorts[a].replace("@", "1").replace("N", "nn");
            for (int b = 0; b < sorts.length; b++) {
                String second = sorts[b].replace("@", "2");
                partsIs(first + second.replace("N", "nm") + "end;", "fine");
                partsIs(first + second.replace("N", "nn") + "end;", "3@" + (first.length() + second.indexOf('N')));
            }
            for (String name : BUILT_IN) {
                String one = sorts[a].replace("@", "1");
                partsIs(one.replace("N", name) + "end;", "3@" + one.indexOf('N'));
            }
        }
        partsIs("type s=real;end;end;", "fine");
        partsIs("entity s;end;end;", "fine");
        partsIs("type t=enum(a,b,a);end;end;", "3@16");
    }

    /** "those of all attributes another one" */
    private static void groupOfAttributes() {
        String[] attributes = {"entity e@;N:real;end;", "entity e@;derive N:real=1;end;", "entity e@;inverse N:ff for xx[0:1];"
            + "end;"};
        String before = "entity ff;xx:ff;end;";
        for (String first : attributes) {
            for (String second : attributes) {
                String text = before + first.replace("@", "1").replace("N", "nn");
                partsIs(text + second.replace("@", "2").replace("N", "nm") + "end;", "fine");
                String known = text + second.replace("@", "2").replace("N", "nn") + "end;";
                partsIs(known, "3@" + (text.length() + second.indexOf('N')));
            }
            for (String other : new String[] {"abs", "ff", "tt", "it", "gg", "rr", "pp", "s"}) {
                partsIs(before + "type tt=enum(it);end;function gg(pp:real):real;end;rule rr;where end;"
                    + first.replace("@", "1").replace("N", other) + "end;", "fine");
            }
        }
    }

    /** "those of the parameters and variables of each function another one" */
    private static void groupOfEachFunction() {
        partsIs("function f(a:real,a:real):real;end;end;", "3@18");
        partsIs("function f(a:real):real;var a:real;end;end;", "3@28");
        partsIs("function f():real;var a:real;var a:real;end;end;", "3@33");
        partsIs("function f(a:real):real;var b:real;end;function g(a:real):real;var b:real;end;end;", "fine");
        partsIs("type t=enum(it);end;entity e;at:real;end;rule r;where end;function f(t:real,it:real,e:real,at:real):real;"
            + "var f:real;var r:real;var abs:real;var g:real;var s:real;end;function g():real;end;end;", "fine");
        partsIs("function f(a:real):real;repeat a=1 to 2;repeat a=1 to 2;return query(a<*query(a<*[1]|a)|a);end;end;end;end;",
            "fine");
    }

    /** A text with each name in place of X: fine for some, otherwise number 4 at the name. */
    private static void siteIs(String site, String fine) {
        for (String name : NAMES.split(" ")) {
            boolean means = (" " + fine + " ").contains(" " + name + " ");
            String want = means ? "fine" : "4@" + (ALL_SORTS.length() + site.indexOf('X'));
            Checks.due(site + " with " + name, c.partsFault(ALL_SORTS + site.replace("X", name) + "end;"), want);
        }
    }

    /** "in a kind or item or a select it has to be a type or an entity" */
    private static void kinds() {
        String all = "ty en ag ee ef";
        siteIs("type q=X;end;", all);
        siteIs("entity q;w:X;end;", all);
        siteIs("entity q;w:optional X;end;", all);
        siteIs("entity q;derive w:X=1;end;", all);
        siteIs("function q(w:X):real;end;", all);
        siteIs("function q(v:real,w:X):real;end;", all);
        siteIs("function q():X;end;", all);
        siteIs("function q():real;var w:X;end;", all);
        String items = "ty en ee ef";
        siteIs("type q=array[0:1] of X;end;", items);
        siteIs("entity q;w:optional list[0:1] of X;end;", items);
        siteIs("entity q;derive w:bag[0:1] of X=1;end;", items);
        siteIs("function q(w:set[0:1] of X):real;end;", items);
        siteIs("function q():array[0:1] of X;end;", items);
        siteIs("function q():real;var w:array[0:1] of X;end;", items);
        siteIs("type q=select(X);end;", items);
        siteIs("type q=select(ty,X);end;", items);
        siteIs("type q=select(X,ee);end;", items);
        siteIs("type q=select(ty,en,X,ef);end;", items);
    }

    /** "as the item of an aggregate, and in a select, it must not be a type that is an aggregate, directly or through types" */
    private static void aggregatesAsItems() {
        for (String sort : "array list bag set".split(" ")) {
            String direct = "type a=" + sort + "[0:1] of real;end;";
            String[] sites = {"type q=set[0:1] of X;end;", "type q=select(X);end;", "type q=select(b,X);end;",
                "entity q;w:list[0:1] of X;end;",
                "function q(w:bag[0:1] of X):real;end;"};
            for (String site : sites) {
                for (String text : new String[] {direct + "type b=real;end;", "type b=real;end;type c=real;end;" + direct}) {
                    partsIs(text + site.replace("X", "a") + "end;", "4@" + (text.length() + site.indexOf('X')));
                    partsIs(site.replace("X", "a") + text + "end;", "4@" + site.indexOf('X'));
                }
                String through = direct + "type b=c;end;type c=d;end;type d=f;end;type f=a;end;";
                if (site.indexOf("b,") < 0) {
                    partsIs(through + site.replace("X", "b") + "end;", "4@" + (through.length() + site.indexOf('X')));
                    partsIs(through.replace("type f=a", "type f=real") + site.replace("X", "b") + "end;", "fine");
                }
            }
            partsIs(direct + "type b=a;end;entity e;x:a;y:b;end;end;", "fine");
        }
        partsIs("type a=select(b);end;type b=select(c);end;type c=list[0:1] of real;end;end;", "4@35");
        partsIs("type a=list[0:1] of b;end;type b=select(e);end;entity e;end;end;", "fine");
    }

    /** "behind "under", "over", and in an inverse before "for", it has to be an entity", and what else is said of these */
    private static void entities() {
        siteIs("entity q under X;end;", "ee ef");
        siteIs("entity q under ee,X;end;", "ef");
        siteIs("entity q under ef,X;end;", "ee");
        siteIs("entity q over X;end;", "");
        siteIs("entity q over qq andor X;end;entity qq under q;end;", "");
        siteIs("entity q over (oneof(qq,X));end;entity qq under q;end;", "");
        siteIs("entity q over qq;end;entity qq under q,X;end;", "ee ef");
        partsIs("entity q over a,b;end;end;", "2@15");
        partsIs("entity q over oneof(a,b) and a;end;entity a under q;end;entity b under q;end;end;", "4@29");
        partsIs("entity q over a and b;end;entity p over b and a;end;entity a under p,q;end;entity b under q,p;end;end;", "fine");
        partsIs("entity a under q;end;entity b under a;end;entity q over b;end;end;", "4@56");
        partsIs("entity a under q,p,q;end;entity p;end;entity q;end;end;", "4@19");
        partsIs("entity a under q,q,zz;end;entity q;end;end;", "4@17");
        partsIs("entity q over a;end;entity a under q,q;end;end;", "4@37");
        partsIs("entity p over p;end;end;", "4@14");
    }

    /** "behind "for" an explicit attribute of that entity itself" */
    private static void inverses() {
        siteIs("entity q;inverse w:ef for X[0:1];end;", "rf");
        siteIs("entity q;inverse w:ee for X[0:1];end;", "at");
        siteIs("entity q under ef;inverse w:q for X[0:1];own:ee for at[0:1];end;", "");
        siteIs("entity q;own:ee;inverse w:q for X[0:1];end;", "");
        partsIs("entity q;own:q;inverse w:q for own[0:1];end;end;", "fine");
        partsIs("entity q;inverse w:p for own[0:1];end;entity p;own:q;end;end;", "fine");
        partsIs("entity q;inverse w:zz for yy[0:1];end;end;", "4@19");
        for (String name : NAMES.split(" ")) {
            String site = "entity q;inverse w:X for rf[0:1];end;";
            int at = name.equals("ee") ? site.indexOf("rf") + 1 : site.indexOf('X');
            String want = name.equals("ef") ? "fine" : "4@" + (ALL_SORTS.length() + at);
            Checks.due(site + " with " + name, c.partsFault(ALL_SORTS + site.replace("X", name) + "end;"), want);
        }
        c.given("entity a;x:list[0:?] of a;inverse i:a for x[2:24];j:b for y[0:?];end;entity b;y:integer;end;");
        Checks.due("the kind of an inverse one", c.house.attribute(1, 6), 20);
        Checks.due("the kind of an inverse one", c.house.attribute(2, 6), 21);
        Checks.due("its sort", c.house.attribute(1, 3), 3);
        Checks.due("its bounds", c.house.attribute(1, 4) * 100 + c.house.attribute(1, 5), 224);
        Checks.due("its bounds", c.house.attribute(2, 5), ExpressHouse.NONE);
    }

    /** "in "unique" an explicit attribute of this entity or of one above it" */
    private static void uniques() {
        siteIs("entity q;unique X;end;", "");
        siteIs("entity q under ee;unique X;end;", "at");
        siteIs("entity q under p;own:real;unique own,X;end;entity p under ef;end;", "rf");
        siteIs("entity q;own:real;unique own;X;end;entity p under q;px:real;end;", "");
        partsIs("entity q;own:real;unique own,own;own;end;end;", "fine");
        partsIs("entity q;own:real;unique px;end;entity p under q;px:real;end;end;", "4@25");
    }

    /** What a name without "(" means: a variable, an attribute in "derive" and "where" of entities, an item, an entity. */
    private static void namesInExpressions() {
        String always = "it ee ef";
        siteIs("rule q;where X;end;", always);
        siteIs("type q=real;where X;end;", always);
        siteIs("type q=ee;where X;end;", always);
        siteIs("function q(pb:real):real;return X;end;", always);
        siteIs("entity q;where X;end;", always);
        siteIs("entity q;derive w:real=X;end;", always);
        siteIs("entity q under ee;where X;end;", always + " at de iv");
        siteIs("entity q under ee;derive w:real=X;end;", always + " at de iv");
        siteIs("entity q under p;where X;end;entity p under ef;end;", always + " rf");
        siteIs("entity q;where query(zz<*X|true);end;", always);
        siteIs("entity q;where query(zz<*1|X);end;", always + " zz");
        siteIs("entity q;where query(zz<*1|true)=X;end;", always);
        siteIs("function q(zz:real):real;var ru:real;return X;end;", always + " zz ru");
        siteIs("function q():real;repeat zz=1 to 2;return X;end;end;", always + " zz");
        siteIs("function q():real;repeat zz=X to 2;end;end;", always);
        siteIs("function q():real;repeat zz=1 to X;end;end;", always);
        siteIs("function q():real;repeat zz=1 to 2 by X;end;end;", always);
        siteIs("function q():real;repeat zz=1 to 2;end;return X;end;", always);
        siteIs("function q(zz:real):real;end;function qq():real;return X;end;", always);
        siteIs("rule q;where 1 .X;end;", "at de iv rf");
        siteIs("rule q;where X(1);end;", "fu abs");
        siteIs("rule q;where X(1,2);end;", "nvl");
        siteIs("rule q;where X();end;", "");
        siteIs("function q(zz:real):real;return X(zz);end;", "fu abs");
        siteIs("function q(fu:real,zz:real):real;return X(1)+fu;end;", "fu abs");
    }

    /** ""self" is the instance in "derive" and "where" of entities, and the value in "where" of types." */
    private static void selves() {
        partsIs("entity e;derive a:e=self;where self;end;type t=real;where self;end;end;", "fine");
        partsIs("rule r;where self;end;end;", "4@13");
        partsIs("function f():real;return self;end;end;", "4@25");
        partsIs("function f():real;repeat i=self to 2;end;end;end;", "4@27");
        partsIs("entity e;where self;end;rule r;where 1;self;end;end;", "4@39");
        partsIs("type t=real;where self;end;function f():real;return self.x;end;end;", "4@52");
        partsIs("entity e;end;rule r;where query(q<*e|self);end;end;", "4@37");
        partsIs("entity e;where query(q<*e|self=q);end;end;", "fine");
    }

    /** "before "(" a function with just as many arguments" */
    private static void numbersOfArguments() {
        String[] given = {"", "1", "1,2", "1,2,3", "1,2,3,4", "1,2,3,4,5"};
        for (int b = 0; b < BUILT_IN.length; b++) {
            for (int n = 0; n < 4; n++) {
                String text = BUILT_IN[b] + "(" + given[n] + ")";
                Checks.due(text, c.workFault(text), n == (b < 11 ? 1 : 2) ? "fine" : "4@0");
            }
        }
        String[] parameters = {"", "a:real", "a:real,b:real", "a:real,b:real,c:real", "a:real,b:real,c:real,d:real"};
        for (int p = 0; p < parameters.length; p++) {
            c.given("function f(" + parameters[p] + "):real;var z:real;end;");
            for (int n = 0; n < given.length; n++) {
                Checks.due("f with " + p + " of " + n, c.workFault("f(" + given[n] + ")"), n == p ? "fine" : "4@0");
            }
            Checks.due("f without", c.workFault("f"), "4@0");
        }
    }

    /** "at the beginning of an assignment a parameter or variable of the function that is not hidden by a repeat variable" */
    private static void assignments() {
        siteIs("function q(zz:real):real;X=1;end;", "zz");
        siteIs("function q():real;var zz:real;X=1;end;", "zz");
        siteIs("function q():real;var zz:list[0:1] of real;X[1]=1;end;", "zz");
        siteIs("function q():real;repeat zz=1 to 2;X=1;end;end;", "");
        siteIs("function q(zz:real,ru:real):real;repeat zz=1 to 2;X=1;end;end;", "ru");
        siteIs("function q(zz:real,ru:real):real;repeat ru=1 to 2;if 1 then repeat ee=1 to 2;X=1;end;end;end;end;", "zz");
        siteIs("function q(zz:real):real;repeat zz=1 to 2;end;X=1;end;", "zz");
        siteIs("function q(zz:real):real;while query(zz<*1|1);X=1;end;end;", "zz");
        siteIs("function q(zz:real):real;end;function qq():real;X=1;end;", "");
    }

    /** "Otherwise it is the first of these that exists: ..." */
    private static void firstThatExists() {
        c.given("type t=enum(a,b,c,d);end;entity e;a:integer;derive w:integer=a;x:integer=sizeof(query(a<*[7,8]|a>7));y:t=b;"
            + "z:integer=sizeof(query(q<*[1,2,3]|q<a));end;entity f under e;derive v:integer=a+1;end;entity g;b:integer;end;"
            + "function k(a:integer):integer;return a;end;function l(a:integer):list[0:?] of integer;var c:list[0:?] of integer;"
                + "c=[];"
            + "repeat a=1 to a;c=c+[a]+query(a<*[8,9]|a=9);end;return c+[a];end;function m():t;return c;end;");
        c.house.make(1);
        c.house.make(3);
        c.set(0, 0, "3");
        c.set(1, 0, "5");
        Checks.due("an attribute before an item", c.got(0, 1), "3");
        Checks.due("a variable before an attribute", c.got(0, 2), "1");
        Checks.due("an item, as the attribute is another entity's", c.got(0, 3), "i1");
        Checks.due("an attribute in a query", c.got(0, 4), "2");
        Checks.due("an attribute of an entity above", c.got(1, 5), "6");
        Checks.due("a parameter before an item", c.value("k(9)"), "9");
        Checks.due("variables before a parameter", c.value("l(2)"), "L1:1[1,9,2,9,2]");
        Checks.due("an item in a function", c.value("m()"), "i2");
        Checks.due("an item", c.value("a"), "i0");
        Checks.due("a variable before an item", c.value("query(a<*[a]|a=b)"), "L1:4[]");
        Checks.due("a variable before an item", c.value("query(a<*[a,b]|a=b)"), "L1:4[i1]");
        Checks.due("an entity", c.value("f"), "S1:5[#1]");
        Checks.due("a variable before an entity", c.value("query(f<*[4,5]|f=5)"), "L1:1[5]");
    }

    /** "a type leads to itself through the types that it names as its kind, as the item of its kind, or in its select" */
    private static void circlesOfTypes() {
        String chain = Checks.repeated("type t@=t#;end;", 7);
        for (int i = 0; i < 7; i++) {
            chain = chain.replaceFirst("#", "" + (i + 1));
        }
        partsIs(chain + "type t7=real;end;end;", "fine");
        partsIs(chain + "type t7=t0;end;end;", "6@5");
        partsIs(chain + "type t7=t7;end;end;", "6@110");
        partsIs(chain + "type t7=t6;end;end;", "6@95");
        partsIs(chain + "type t7=select(t3);end;end;", "6@50");
        partsIs(chain.replace("=t3;", "=select(t3);") + "type t7=t0;end;end;", "6@5");
        partsIs(chain.replace("=t3;", "=select(e,t3);") + "type t7=t0;end;entity e;end;end;", "6@5");
        partsIs(chain.replace("=t3;", "=set[0:1] of t3;") + "type t7=t3;end;end;", "6@62");
        partsIs("type b=list[0:1] of b;end;end;", "6@5");
        partsIs("type b=select(b);end;end;", "6@5");
        partsIs("type b=select(e,b);end;entity e;end;end;", "6@5");
        partsIs("type b=c;end;type c=list[0:1] of b;end;end;", "6@5");
        partsIs("type b=e;end;entity e;x:b;y:set[0:1] of b;end;end;", "fine");
        partsIs("type b=select(c,d);end;type c=f;end;type d=f;end;type f=real;end;end;", "fine");
        c.given(chain + "type t7=real;end;entity e;x:t0;y:list[0:?] of t0;z:array[0:1] of t0;end;");
        c.house.make(1);
        c.set(0, 0, "1");
        Checks.due("real through eight types", c.got(0, 0), "1.0");
        Checks.due("of reals through eight types", c.set(0, 1, "[1.0]"), 6);
        Checks.due("of reals through eight types", c.set(0, 1, "[1]"), ExpressHouse.NONE);
        Checks.due("of reals through eight types", c.set(0, 2, "[1.0,2.0]"), 6);
        Checks.due("of reals through eight types", c.set(0, 2, "[1,2]"), ExpressHouse.NONE);
        c.given(chain + "type t7=bag[0:1] of e;end;entity e;x:t0;end;");
        c.house.make(1);
        c.set(0, 0, "[#0]");
        Checks.due("a bag through eight types", c.got(0, 0), "B1:5[#0]");
        Checks.due("as it is written", c.house.attribute(0, 3), ExpressHouse.NONE);
        Checks.due("as it is written", c.house.attribute(0, 4), ExpressHouse.NONE);
        Checks.due("as it is written", c.house.attribute(0, 6), 3);
    }

    /** "an entity is above itself (at its name)"; twelve entities in a row, in both orders. */
    private static void circlesOfEntities() {
        StringBuilder up = new StringBuilder();
        StringBuilder down = new StringBuilder();
        for (int e = 0; e < 11; e++) {
            up.append("entity e").append(e).append(" under e").append(e + 1).append(";end;");
            down.insert(0, "entity e" + e + " under e" + (e + 1) + ";end;");
        }
        partsIs(up + "entity e11 under e0;end;end;", "6@7");
        partsIs("entity e11 under e0;end;" + down + "end;", "6@7");
        partsIs(up + "entity e11 under e10;end;end;", "6@" + up.indexOf("e10 under"));
        partsIs(up + "entity e11 under e11;end;end;", "6@" + (up.length() + 7));
        c.given(up + "entity e11;end;");
        for (int e = 0; e < 12; e++) {
            Checks.due("above e" + e, c.house.entity(e, 2), 4095 & -2 << e);
            Checks.due("just under", c.house.entity(e, 1), e == 11 ? 0 : 2 << e);
        }
        c.given("entity e11;end;" + down);
        for (int e = 0; e < 12; e++) {
            Checks.due("above entity " + e, c.house.entity(e, 2), (1 << e) - 1);
        }
        partsIs("entity a under b,c;end;entity b under d;end;entity c under d;end;entity d;end;end;", "fine");
        partsIs("entity e;x:e;derive y:e=self;inverse z:e for x[0:1];end;end;", "fine");
    }

    /** "if there is none, the one of the numbers 4 and 6 with the lowest place" */
    private static void lowestPlace() {
        partsIs("entity a under b;end;entity b under b;end;type t=zz;end;end;", "6@28");
        partsIs("type t=zz;end;entity b under b;end;end;", "4@7");
        partsIs("type t=u;end;type u=t;end;entity e;x:zz;end;end;", "6@5");
        partsIs("entity e;x:zz;end;type t=u;end;type u=t;end;end;", "4@11");
        partsIs("rule r;where f(zz,self);end;end;", "4@13");
        partsIs("rule r;where abs(zz)+self;end;end;", "4@17");
        partsIs("rule r;where 1 .x.y+zz;end;end;", "4@16");
        partsIs("rule r;where zz;1 2;end;end;", "2@18");
        partsIs("rule r;where zz;end;rule abs;where end;end;", "3@25");
        partsIs("rule r;where zz;end;type t=list[0:25] of real;end;end;", "5@34");
        partsIs("rule r;where zz;end;end;$", "1@24");
        partsIs("rule r;where zz;end;end", "2@23");
    }
}
