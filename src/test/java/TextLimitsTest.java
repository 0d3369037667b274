/** Section 1: each sentence of it that names a boundary, on both sides of the boundary. */
public final class TextLimitsTest {
    private static final Checks c = new Checks();
    /** 599 nodes, 599 bytes. */
    private static final String NODES_599 = Checks.repeated("1+", 299) + "1";
    private static final String KEYWORDS = "schema type enum select entity abstract under over oneof andor optional derive inverse "
        + "for unique where function var if then else repeat to by while escape skip return rule end integer real logical array "
        + "list bag set of and or xor not in div mod query true false unknown self";

    public static void main(String[] args) {
        tapeOf3000();
        bytesThatBeginTokens();
        blanks();
        namesOfTwelve();
        keywordsAreNoNames();
        wholesOfNine();
        realsOfSix();
        signsAsLongAsPossible();
        numberedThings();
        oneThreeBeforeFive();
        parametersAndVariables();
        listsOfUnique();
        expressionsOfWhere();
        boundsOf24();
        statementsOf120();
        insideSixOthers();
        nodesOf600();
        nodesThatAreNone();
        openingsOfEight();
        openingsThatEnd();
        parenthesesOfSupers();
        Checks.end("TextLimitsTest");
    }

    private static void workIs(String text, String want) {
        Checks.due(text, c.workFault(text), want);
    }

    private static void partsIs(String parts, String want) {
        Checks.due(parts, c.partsFault(parts), want);
    }

    private static String times(String part, int n) {
        return Checks.repeated(part, n);
    }

    /** "The tape is a sequence of at most 3000 bytes, at first empty." */
    private static void tapeOf3000() {
        Checks.due("an empty tape", c.house.cut(1), ExpressHouse.BAD);
        for (int n = 1; n <= 150; n++) {
            Checks.due("feed", c.house.feed(0x20202020, 0x20202020, 0x20202020, 0x20202020, 0x20202020), 20 * n);
        }
        Checks.due("3020 bytes", c.house.feed(0, 0, 0, 0, 0), ExpressHouse.FULL);
        Checks.due("cut", c.house.cut(19), 2981);
        Checks.due("3001 bytes", c.house.feed(0, 0, 0, 0, 0), ExpressHouse.FULL);
        Checks.due("the tape stays", c.house.count(9), 2981);
        Checks.due("cut", c.house.cut(1), 2980);
        Checks.due("3000 bytes", c.house.feed(0x20202020, 0x20202020, 0x20202020, 0x20202020, 0x20202037), 3000);
        Checks.due("a token at the last byte", c.house.work(), 1);
        Checks.due("its value", c.hand(), "7");
        workIs(times(" ", 2999) + "%", "1@2999");
        workIs(times(" ", 3000), "2@3000");
        workIs(times(" ", 2995) + "1+2+3", "fine");
        workIs(times(" ", 2999) + "+", "2@2999");
        workIs("1" + times(" ", 2998) + "+", "2@3000");
        workIs(times(" ", 2999) + "<", "2@2999");
        workIs(times(" ", 2998) + "1:", "2@2999");
        workIs(times(" ", 2998) + "1.", "2@3000");
        partsIs(times(";", 2991), "2@0");
        c.tape("1+20*3-4.5/6 -(-7)+8");
        Checks.due("the bytes in their order", c.house.work(), 2);
        Checks.due("the bytes in their order", c.hand(), "75.25");
    }

    /** "1 no token begins there." for each byte, and 2 or 4 for those with which a token begins. */
    private static void bytesThatBeginTokens() {
        for (int b = 0; b < 256; b++) {
            String want = "1@0";
            if (b == ' ' || b == '\n' || b == '(' || b == '[' || b == '-' || b == '#') {
                want = "2@1";
            } else if (b >= 'a' && b <= 'z') {
                want = "4@0";
            } else if (b >= '0' && b <= '9' || b == '?') {
                want = "fine";
            } else if ("<>=:*|+/)],;.".indexOf((char) b) >= 0) {
                want = "2@0";
            }
            Checks.due("byte " + b, c.workFault("" + (char) b), want);
        }
    }

    /** "blanks and line feeds (bytes 32 and 10) may stand before, between and after tokens" */
    private static void blanks() {
        workIs(" \n 1 \n + \n 2 \n ", "fine");
        for (int b : new int[] {0, 9, 11, 12, 13, 31, 127, 128, 160, 255}) {
            workIs("1" + (char) b + "+2", "1@1");
            workIs("1+2" + (char) b, "1@3");
        }
        workIs("1 2", "2@2");
        workIs("1 .5", "2@3");
        workIs("1. 5", "2@3");
        workIs("[1][1]", "fine");
    }

    /** "names: a letter a to z, followed by letters a to z, digits and "_", at most 12 bytes" */
    private static void namesOfTwelve() {
        workIs("abcdefghijkl", "4@0");
        workIs("abcdefghijklm", "1@0");
        workIs("a23456789_12", "4@0");
        workIs("a23456789_12_", "1@0");
        workIs("a234567890123", "1@0");
        workIs("_a", "1@0");
        workIs("1a", "2@1");
        workIs("aB", "1@1");
        workIs("a" + (char) 228, "1@1");
        String[] names = {"a", "z", "a_", "z9", "a0", "az09_", "a___________", "z___________", "a00000000000", "zzzzzzzzzzzz",
            "a23456789_12", "aaaaaaaaaaaa"};
        StringBuilder parts = new StringBuilder();
        for (String name : names) {
            parts.append("entity ").append(name).append(";end;");
        }
        c.given(parts.toString());
        for (int e = 0; e < names.length; e++) {
            Checks.due("entity " + e, c.name(2, e), names[e]);
            Checks.due("its last byte", c.house.name(2, e, names[e].length() - 1), names[e].charAt(names[e].length() - 1));
            Checks.due("the byte behind it", c.house.name(2, e, names[e].length()), ExpressHouse.BAD);
        }
        Checks.due("schema names", c.schemaFault("schema abcdefghijkl;end;"), "fine");
        Checks.due("schema names", c.schemaFault("schema abcdefghijklm;end;"), "1@7");
    }

    /** "keywords, which look like names but are none" */
    private static void keywordsAreNoNames() {
        for (String word : KEYWORDS.split(" ")) {
            Checks.due(word, c.schemaFault("schema " + word + ";end;"), "2@7");
            Checks.due(word + "s", c.schemaFault("schema " + word + "s;end;"), "fine");
            Checks.due(word + "_", c.schemaFault("schema " + word + "_;end;"), "fine");
            Checks.due(word + "0", c.schemaFault("schema " + word + "0;end;"), "fine");
            partsIs("entity " + word + ";end;end;", "2@7");
            workIs("1." + word, "2@2");
            boolean operator = " and or xor in div mod ".contains(" " + word + " ");
            workIs("1 " + word + " 1", operator ? "fine" : "2@2");
        }
        for (String word : "abs floor ceil rint sign sizeof lowindex highindex exists usedin odd copysign min max nvl".split(" ")) {
            Checks.due(word, c.schemaFault("schema " + word + ";end;"), "fine");
        }
    }

    /** "wholes: 1 to 9 digits (more digits are no token)" */
    private static void wholesOfNine() {
        c.house = new ExpressHouse();
        Checks.due("nine digits", c.value("999999999"), "999999999");
        Checks.due("nine digits", c.value("000000001"), "1");
        Checks.due("one digit", c.value("0"), "0");
        workIs("1000000000", "1@0");
        workIs("0000000001", "1@0");
        workIs("1+0000000000", "1@2");
        workIs("#999999999", "fine");
        workIs("#1000000000", "1@1");
    }

    /** "reals: 1 to 6 digits, ".", 1 to 6 digits (more digits on either side are no token)", and their values. */
    private static void realsOfSix() {
        c.house = new ExpressHouse();
        String reals = "0.1 1.0 999999.999999 0.000001 000001.000000 123456.5 1.123456 0.3 2.675 99.99 000000.000000";
        for (String real : reals.split(" ")) {
            Checks.due(real, c.value(real), "" + Double.parseDouble(real));
        }
        // the whole of all digits divided by a power of ten
        Checks.due("bits of 0.7", c.work("0.7") * 0 + c.house.bits(-3), Double.doubleToLongBits(7.0 / 10.0));
        Checks.due("bits of 123.4567", c.work("123.4567") * 0 + c.house.bits(-3), Double.doubleToLongBits(1234567.0 / 10000.0));
        workIs("1234567.1", "1@0");
        workIs("1.1234567", "1@0");
        workIs("1234567.1234567", "1@0");
        workIs("1234567890.1", "1@0");
        workIs("1.1234567890", "1@0");
        workIs("1.", "2@2");
        workIs(".1", "2@0");
        workIs("1..1", "2@2");
        workIs("1.1.1", "2@4");
        workIs("1234567.", "2@8");
        workIs("123456789.x", "4@10");
        workIs("1234567890.x", "1@0");
        partsIs("entity e;a:list[1.5:?] of e;end;end;", "2@16");
    }

    /** "Its tokens are read from left to right, each as long as possible" */
    private static void signsAsLongAsPossible() {
        c.house = new ExpressHouse();
        String[][] fine = {{"1<=1", "t"}, {"1>=2", "f"}, {"1<>1", "f"}, {"1:=:1", "t"}, {"[1:=:1]", "L1:3[t]"}, {"1<-1", "f"},
            {"3-2", "1"}, {"[7:2]", "L1:1[7,7]"}, {"query(q<*[1]|true)", "L1:1[1]"}};
        for (String[] one : fine) {
            Checks.due(one[0], c.value(one[0]), one[1]);
        }
        workIs("1< =1", "2@3");
        workIs("1> =1", "2@3");
        workIs("1< >1", "2@3");
        workIs("1: =:1", "2@1");
        workIs("1:= :1", "2@1");
        workIs("1:=1", "2@1");
        workIs("[1:=1]", "2@3");
        workIs("1<=>1", "2@3");
        workIs("1<=", "2@3");
        workIs("1>=", "2@3");
        workIs("1<>", "2@3");
        workIs("1:=:", "2@4");
        workIs("1:=", "2@1");
        workIs("query(q<*", "2@9");
        workIs("query(q<", "2@7");
        workIs("1<*1", "2@1");
        workIs("1|1", "2@1");
        workIs("1?1", "2@1");
        workIs("1#1", "2@1");
        workIs("1;", "2@1");
        workIs("1,1", "2@1");
        workIs("1)", "2@1");
        workIs("1]", "2@1");
        workIs("query(q< *[1]|true)", "2@7");
        workIs("query(q|[1]|true)", "2@7");
        workIs("query(q<*[1]<*true)", "2@12");
        partsIs("type t=of[0:1] of real;end;end;", "2@7");
        partsIs("type t=end[0:1] of real;end;end;", "2@7");
        partsIs("type t=real[0:1] of real;end;end;", "2@11");
    }

    private static void limit(String before, String part, int most, String behind, int inPart) {
        partsIs(before + times(part, most) + behind, "fine");
        int place = (before + times(part, most)).length() + inPart;
        partsIs(before + times(part, most + 1) + behind, "5@" + place);
    }

    /** "a 9th type, 21st item, 13th entity, 41st attribute, 7th function, 5th rule" (at its name) */
    private static void numberedThings() {
        limit("entity e;end;", "type t@=list[0:1] of e;end;", 8, "rule r;where end;end;", 5);
        limit("", "type t@=select(e);end;", 8, "entity e;end;end;", 5);
        limit("type t=enum(a,b,c,d,e,f,g,h,i,j);end;type u=enum(k", ",i@", 9, ");end;end;", 1);
        limit("type t=enum(a,b,c,d,e,f,g,h,i,j,k,l,m,n,o,p,q);end;", "type t@=enum(i@);end;", 3, "end;", 13);
        limit("rule r;where end;", "entity e@ abstract;end;", 12, "end;", 7);
        limit("", "rule r@;where true;end;", 4, "entity e;end;end;", 5);
        limit("", "function f@(x:real):real;end;", 6, "end;", 9);
        limit("entity e;", "a@:real;", 40, "end;end;", 0);
        limit("entity e;derive ", "a@:real=1;", 40, "end;end;", 0);
        limit("entity e;x:e;inverse ", "a@:e for x[0:?];", 39, "end;end;", 0);
        String before = "entity e;" + times("a@:real;", 20) + "derive " + times("b@:real=1;", 18) + "inverse c:f for x[0:1];end;";
        partsIs(before + "entity f;x:e;end;end;", "fine");
        partsIs(before + "entity f;x:e;y:e;end;end;", "5@" + (before.length() + 13));
        partsIs(before + "entity f;x:e;derive y:e=x;end;end;", "5@" + (before.length() + 20));
        partsIs(before + "entity f;x:e;inverse y:f for x[0:1];end;end;", "5@" + (before.length() + 21));
    }

    /** "at one token the lowest number": a name that is known and one too many has number 3. */
    private static void oneThreeBeforeFive() {
        String types = times("type t@=real;end;", 8);
        partsIs(types + "type t7=real;end;end;", "3@" + (types.length() + 5));
        partsIs(types + "type t8=real;end;end;", "5@" + (types.length() + 5));
        String entities = times("entity e@;end;", 12);
        partsIs(entities + "entity abs;end;end;", "3@" + (entities.length() + 7));
        String items = "type t=enum(a" + times(",i@", 19);
        partsIs(items + ",t);end;end;", "3@" + (items.length() + 1));
        partsIs(items + ",u);end;end;", "5@" + (items.length() + 1));
        String attributes = "entity e;" + times("a@:real;", 40);
        partsIs(attributes + "a0:real;end;end;", "3@" + attributes.length());
        String functions = times("function f@():real;end;", 6);
        partsIs(functions + "function f3():real;end;end;", "3@" + (functions.length() + 9));
        String rules = times("rule r@;where end;", 4);
        partsIs(rules + "rule r0;where end;end;", "3@" + (rules.length() + 5));
        partsIs("function f(a:real,b:real,c:real,d:real,a:real):real;end;end;", "3@39");
        partsIs("function f(a:real):real;" + times("var v@:real;", 6) + "var a:real;end;end;", "3@100");
        partsIs("function f(a:real):real;" + times("var v@:real;", 6) + "var b:real;end;end;", "5@100");
    }

    /** "5th parameter, 7th variable of a function (at its name)" */
    private static void parametersAndVariables() {
        String four = "(a:real,b:real,c:real,d:real):real;";
        partsIs("function f" + four + "end;function g" + four + "end;end;", "fine");
        partsIs("function f(a:real,b:real,c:real,d:real,e:real):real;end;end;", "5@39");
        partsIs("function f" + four + "end;function g(a:real,b:real,c:real,d:real,e:real):real;end;end;", "5@88");
        limit("function f" + four, "var v@:real;", 6, "end;end;", 4);
        limit("function f():real;", "var v@:real;", 6, "end;end;", 4);
        limit("function f" + four + times("var v@:real;", 6) + "end;function g(a:real):real;", "var v@:real;", 6, "end;end;", 4);
        c.given("function f(a:real,b:integer,c:real,d:integer):list[0:?] of real;" + times("var v@:real;", 5)
            + "var v5:list[0:?] of real;v0=a;v1=b;v2=c;v3=d;v4=v0+v3;v5=[a,v0,v1,v2,v3,v4];return v5;end;");
        Checks.due("each of ten", c.value("f(1,2,3,4)"), "L1:2[1.0,1.0,2.0,3.0,4.0,5.0]");
    }

    /** "a 5th list of names in a "unique" part (at its first name)" */
    private static void listsOfUnique() {
        limit("entity e;a:real;b:real;unique ", "a,b;", 4, "where end;end;", 0);
        partsIs("entity e;a:real;unique a;a;a;a;end;entity f;b:real;unique b;b;b;b;end;end;", "fine");
        partsIs("entity e;a:real;unique a;a;a;a;end;entity f;b:real;unique b;b;b;b;b;end;end;", "5@66");
        c.given("entity e;a:real;unique a;a;a;a;end;");
        Checks.due("lists of names", c.house.entity(0, 6), 4);
    }

    /** "a 7th expression in a "where" (at its first token)" */
    private static void expressionsOfWhere() {
        limit("type t=real;where ", "(1);", 6, "end;end;", 0);
        limit("entity e;where ", "not true;", 6, "end;end;", 0);
        limit("rule r;where ", "[1];", 6, "end;end;", 0);
        partsIs("type t=real;where " + times("1;", 6) + "end;entity e;where " + times("1;", 6) + "end;rule r;where " + times("1;",
            6)
            + "end;rule s;where " + times("1;", 6) + "end;end;", "fine");
        partsIs("rule r;where 1;1;1;1;1;1;);end;end;", "2@25");
        partsIs("rule r;where 1;1;1;1;1;1;%end;end;", "1@25");
        c.given("entity e;where 1;1;1;1;1;1;end;");
        Checks.due("expressions", c.house.entity(0, 7), 6);
    }

    /** "in bounds a whole above 24, or a second one that is less than the first one (at it)", wherever bounds stand */
    private static void boundsOf24() {
        String[][] sites = {{"type t=bag", " of real;end;end;"}, {"entity e;a:array", " of real;end;end;"},
            {"entity e;derive a:set", " of real=[];end;end;"}, {"entity e;a:e;inverse i:e for a", ";end;end;"},
            {"function f(a:list", " of real):real;end;end;"}, {"function f():array", " of real;end;end;"},
            {"function f():real;var a:bag", " of real;end;end;"}};
        for (String[] site : sites) {
            int at = site[0].length() + 1;
            for (String bounds : "[0:0] [24:24] [0:24] [24:?] [0:?] [7:7] [6:7] [000000007:000000024]".split(" ")) {
                partsIs(site[0] + bounds + site[1], "fine");
            }
            partsIs(site[0] + "[25:?]" + site[1], "5@" + at);
            partsIs(site[0] + "[25:26]" + site[1], "5@" + at);
            partsIs(site[0] + "[0:25]" + site[1], "5@" + (at + 2));
            partsIs(site[0] + "[24:23]" + site[1], "5@" + (at + 3));
            partsIs(site[0] + "[1:0]" + site[1], "5@" + (at + 2));
            partsIs(site[0] + "[999999999:?]" + site[1], "5@" + at);
            partsIs(site[0] + "[?:1]" + site[1], "2@" + at);
            partsIs(site[0] + "[-1:1]" + site[1], "2@" + at);
            partsIs(site[0] + "[0:1000000000]" + site[1], "1@" + (at + 2));
        }
        c.given("entity e;a:array[24:24] of real;b:list[0:?] of real;end;");
        Checks.due("the first one", c.house.attribute(0, 4), 24);
        Checks.due("the second one", c.house.attribute(0, 5), 24);
        Checks.due("the first one", c.house.attribute(1, 4), 0);
        Checks.due("?", c.house.attribute(1, 5), ExpressHouse.NONE);
    }

    /** "the 121st statement of the text (at its first token)" */
    private static void statementsOf120() {
        limit("function f():real;", "escape;", 120, "end;end;", 0);
        limit("function f():real;if 1 then " + times("skip;", 50) + "else ", "skip;", 69, "end;end;end;", 0);
        limit("function f():real;while 1;" + times("skip;", 50) + "end;repeat i=1 to 2;", "skip;", 68, "end;end;end;", 0);
        limit("function f(a:real):real;" + times("a=1;", 60) + "end;function g(a:real):real;", "a=1;", 60, "end;end;", 0);
        limit("function f():real;", "if 1 then skip;end;", 60, "end;end;", 0);
        limit("function f():real;", "return 1;", 120, "end;end;", 0);
    }

    /** "a statement inside six others (at its first token)", of each kind, inside each kind */
    private static void insideSixOthers() {
        String[][] others = {{"if 1 then ", "end;"}, {"if 1 then else ", "end;"}, {"while 1;", "end;"},
            {"repeat i=1 to 2;", "end;"}};
        String[] statements = {"skip;", "escape;", "return 1;", "a=1;", "if 1 then end;", "while 1;end;", "repeat j=1 to 2;end;"};
        String before = "function f(a:real):real;";
        for (String[] other : others) {
            for (String statement : statements) {
                partsIs(before + times(other[0], 5) + statement + times(other[1], 5) + "end;end;", "fine");
                partsIs(before + times(other[0], 6) + times(other[1], 6) + "end;end;", "fine");
                int place = before.length() + 6 * other[0].length();
                partsIs(before + times(other[0], 6) + statement + times(other[1], 6) + "end;end;", "5@" + place);
            }
        }
        partsIs(before + "if 1 then while 1;repeat i=1 to 2;if 1 then else while 1;skip;end;end;end;end;end;skip;end;end;", "fine");
        String mixed = before + "if 1 then while 1;repeat i=1 to 2;if 1 then else while 1;if 1 then ";
        partsIs(mixed + "end;end;end;end;end;end;end;end;", "fine");
        partsIs(mixed + "skip;end;end;end;end;end;end;end;end;", "5@" + mixed.length());
    }

    /** "the 601st node" (at its token), for each kind of node; of work() and set(), that of the tape alone */
    private static void nodesOf600() {
        c.given("entity e;x:integer;end;type k=enum(red);end;function f():integer;end;rule r;where " + NODES_599 + ";end;");
        Checks.due("nodes of the schema", c.house.count(6), 599);
        workIs(NODES_599 + ".x", "fine");
        workIs(NODES_599 + ".x.x", "5@601");
        workIs(NODES_599 + ".x[1]", "5@601");
        String[] operators = {"+", "-", "*", "/", "<", "<=", ">", ">=", "=", "<>", ":=:", " or ", " xor ", " and ", " div ",
            " mod ", " in "};
        String[] parts = {"1", "1.5", "true", "false", "unknown", "?", "#0", "red", "e", "f()", "exists(1)", "query(q<*1|1)", "[]",
            "-1", "not 1"};
        String nodes598 = "-" + times("1*", 298) + "1";
        for (String operator : operators) {
            String text = NODES_599 + operator;
            workIs(text + "1", "5@" + text.length());
            workIs(nodes598 + operator + "1", "fine");
            workIs(nodes598 + operator + "1" + (operator.equals("+") ? "-1" : "+1"), "5@" + (nodes598.length() + operator.length()
                + 1));
        }
        for (String part : parts) {
            workIs(NODES_599 + "+" + part, "5@600");
            workIs(nodes598 + "-" + part, part.matches("-1|not 1|exists.*|query.*") ? "5@" + (nodes598.length() + 1
                + nextNode(part)) : "fine");
        }
        workIs(nodes598 + "[1]", "fine");
        workIs(nodes598 + "[1+1]", "5@" + (nodes598.length() + 2));
        workIs(nodes598 + ".x.x", "fine");
        workIs(nodes598 + ".x.x.x", "5@" + (nodes598.length() + 4));
        partsIs("entity e;derive a:real=" + NODES_599 + ";where 1;end;end;", "fine");
        partsIs("entity e;derive a:real=" + NODES_599 + ";where 1;1;end;end;", "5@" + (23 + 599 + 9));
        partsIs("rule r;where " + NODES_599 + ";end;function f():real;if 1 then return 1;end;end;end;", "5@" + (13 + 599 + 40));
        partsIs("rule r;where " + NODES_599 + ";end;function f():real;if 1 then end;end;end;", "fine");
        partsIs("rule r;where " + NODES_599 + ";end;type t=real;where self;end;end;", "fine");
        partsIs("rule r;where " + NODES_599 + ";end;type t=real;where self.x;end;end;", "5@" + (13 + 599 + 27));
    }

    /** Where the second node of a part is. */
    private static int nextNode(String part) {
        return part.startsWith("-") ? 1 : part.startsWith("not") ? 4 : part.startsWith("exists") ? 7 : 9;
    }

    /** "each base except "( exp )"": what is no node */
    private static void nodesThatAreNone() {
        c.given("type t=list[0:1] of real;end;entity e over f;a:array[1:2] of real;inverse i:f for b[0:1];unique a;end;"
            + "entity f under e;b:e;end;function f1(x:list[0:?] of real):real;x[1]=2;repeat i=1 to 2 by 1;end;while 1;end;end;");
        Checks.due("2 of the assignment, 3 of the repeat, 1 of the while", c.house.count(6), 6);
        c.given("rule r;where ((1));(((1))+(2));[(1):2,3:4];query(q<*(1)|(q));end;rule s;where exists((1));1[(2)];1 .x;end;"
            + "entity e;x:e;end;");
        Checks.due("nodes", c.house.count(6), 1 + 3 + 5 + 3 + 2 + 3 + 2);
        workIs("(" + NODES_599 + ")", "fine");
        workIs("((" + NODES_599 + ")+(1))", "5@604");
    }

    /** "a 9th nested opening, where the openings are ..." (at the token) */
    private static void openingsOfEight() {
        String[][] kinds = {{"(", "1", ")"}, {"[", "1", "]"}, {"abs(", "1", ")"}, {"nvl(1,", "1", ")"}, {"1[", "1", "]"},
            {"query(q<*", "1", "|1)"}, {"query(q<*1|", "1", ")"}, {"(1+", "1", ")"}, {"[1,", "1", "]"}, {"[1:", "1", "]"}};
        for (String[] kind : kinds) {
            int inKind = kind[0].startsWith("query") ? 0 : Math.max(kind[0].indexOf('('), kind[0].indexOf('['));
            workIs(times(kind[0], 8) + kind[1] + times(kind[2], 8), "fine");
            workIs(times(kind[0], 9) + kind[1] + times(kind[2], 9), "5@" + (8 * kind[0].length() + inKind));
            workIs(times(kind[0], 8) + "-1" + times(kind[2], 8), "5@" + (8 * kind[0].length()));
            workIs(times(kind[0], 8) + "not 1" + times(kind[2], 8), "5@" + (8 * kind[0].length()));
            workIs(times(kind[0], 8) + "1-1" + times(kind[2], 8), "fine");
            workIs(times(kind[0], 7) + "-1" + times(kind[2], 7), "fine");
            workIs(times(kind[0], 7) + "-[1]" + times(kind[2], 7), "5@" + (7 * kind[0].length() + 1));
            workIs(times(kind[0], 7) + "not (1)" + times(kind[2], 7), "5@" + (7 * kind[0].length() + 4));
            workIs(times(kind[0], 8) + "query(q<*1|1)" + times(kind[2], 8), "5@" + (8 * kind[0].length()));
            workIs(times(kind[0], 7) + "query(q<*1|1)" + times(kind[2], 7), "fine");
        }
        partsIs("rule r;where " + times("(", 8) + "1" + times(")", 8) + ";end;end;", "fine");
        partsIs("rule r;where " + times("(", 9) + "1" + times(")", 9) + ";end;end;", "5@21");
        partsIs("entity e;derive a:real=" + times("(", 9) + "1" + times(")", 9) + ";end;end;", "5@31");
        String list = "function f(x:list[0:?] of real):real;";
        partsIs(list + "x[" + times("(", 8) + "1" + times(")", 8) + "]=" + times("(", 8) + "1" + times(")", 8) + ";end;end;",
            "fine");
        partsIs(list + "x[" + times("(", 9) + "1" + times(")", 9) + "]=1;end;end;", "5@47");
        partsIs(list + "x[1]=" + times("(", 9) + "1" + times(")", 9) + ";end;end;", "5@50");
    }

    /** Each opening ends: "-" and "not" with their part, "query" with its ")", the others with their sign. */
    private static void openingsThatEnd() {
        for (String one : new String[] {"(1)", "[1]", "abs(1)", "1[1]", "query(q<*1|1)", "-1", "-(1)", "-1[1]"}) {
            workIs(times(one + "+", 20) + one, "fine");
            workIs("[" + times(one + ",", 20) + one + "]", "fine");
            workIs(times("(", 6) + one + "+(" + one + ")" + times(")", 6), one.matches("-[(1].*[)\\]]") ? "5@"
                + nested(one) : "fine");
        }
        workIs(times("not 1 and ", 20) + "not (1)", "fine");
        workIs("1" + times("[1]", 20), "fine");
        workIs("[1]" + times("[1]", 20), "fine");
        workIs(times("(", 7) + "-1+(1)" + times(")", 7), "fine");
        workIs(times("(", 7) + "-1<(1)" + times(")", 7), "fine");
        workIs(times("(", 7) + "(-1)" + times(")", 7), "5@8");
        workIs(times("(", 7) + "-1 .x(1)" + times(")", 7), "2@12");
        workIs(times("(", 7) + "query(q<*1|1)+(1)" + times(")", 7), "fine");
        workIs(times("(", 7) + "query(q<*(1)|1)" + times(")", 7), "5@16");
        workIs(times("(", 7) + "query(q<*1|(1))" + times(")", 7), "5@18");
        partsIs("rule r;where " + times("(1);", 6) + "end;rule s;where " + times("-1;", 6) + "end;end;", "fine");
    }

    /** Within six parentheses, "one+(one)": where the ninth opening of the second one is. */
    private static int nested(String one) {
        return 6 + one.length() + 2 + (one.indexOf('(') > 0 ? one.indexOf('(') : one.indexOf('['));
    }

    /** "and "(" within a "super" (at the token)" */
    private static void parenthesesOfSupers() {
        String below = times("entity s@ under e;end;", 10);
        partsIs(below + "entity e over " + times("(", 8) + "s0" + times(")", 8) + ";end;end;", "fine");
        partsIs(below + "entity e over " + times("(", 9) + "s0" + times(")", 9) + ";end;end;", "5@" + (below.length() + 22));
        partsIs(below + "entity e over " + times("oneof(", 8) + "s0" + times(")", 8) + ";end;end;", "fine");
        partsIs(below + "entity e over " + times("oneof(", 9) + "s0" + times(")", 9) + ";end;end;", "5@" + (below.length() + 67));
        partsIs(below + "entity e over s0 andor " + times("(oneof(", 4) + "s1" + times("))", 4) + ";end;end;", "fine");
        partsIs(below + "entity e over " + times("(s@) andor ", 9) + "(s9);end;end;", "fine");
        partsIs(below + "entity e over " + times("oneof(s@) and ", 9) + "(s9);end;end;", "fine");
        partsIs(below + "entity e over " + times("(", 8) + "s0" + times(") and (s1", 1) + times(")", 8) + ";end;end;", "fine");
    }
}
