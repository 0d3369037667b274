/** Promises 32 to 35: writing and reading files. */
public final class FilesTest {
    private static final Checks c = new Checks();
    private static final String SCHEMA = "type col=enum(red,t,blue);end;type n=integer;end;type re=real;end;type li=list[0:3] of n;end;"
        + "type pick=select(col,a,n);end;entity a abstract over oneof(b,d);i:n;end;entity b under a;r:re;k:col;end;"
        + "entity d under a;l:logical;end;entity e;p:a;ps:set[0:?] of pick;ar:array[2:4] of real;x:li;bg:bag[0:?] of col;end;"
        + "entity f under b;g:e;end;";

    public static void main(String[] args) {
        writing();
        reals();
        operations();
        fullOutput();
        reading();
        told();
        forms();
        keywords();
        numbers();
        senses();
        values();
        places();
        many();
        Checks.end("FilesTest");
    }

    private static void writing() {
        c.given(SCHEMA);
        Checks.due("an empty output", c.house.out(0), ExpressHouse.BAD);
        Checks.due("write of nothing", c.house.write(), 0);
        c.house.make(3);
        c.house.make(5);
        c.house.make(8);
        c.house.make(19);
        c.set(0, 0, "-7");
        c.set(0, 1, "2.5");
        c.set(0, 2, "red");
        c.set(1, 3, "unknown");
        c.set(2, 4, "#0");
        c.set(2, 5, "[#0,#1]");
        c.set(2, 6, "[1.0,2.0,3.0]");
        c.set(2, 7, "[]");
        c.set(2, 8, "[t,red,t]");
        String want = "#0=b(-7,2.5,.red.);#1=d($,.u.);#2=e(#0,(#0,#1),(1.0,2.0,3.0),(),(.t.,.red.,.t.));#3=f($,$,$,$);";
        Checks.due("write", c.house.write(), want.length());
        Checks.due("the output", c.output(), want);
        Checks.due("out(-1)", c.house.out(-1), ExpressHouse.BAD);
        Checks.due("out behind the end", c.house.out(want.length()), ExpressHouse.BAD);
        c.house.drop(0);
        c.house.drop(1);
        c.house.drop(3);
        c.set(2, 6, "?");
        c.house.write();
        Checks.due("the output", c.output(), "#2=e($,(),$,(),(.t.,.red.,.t.));");
        c.given("entity a;x:real;end;entity b under a;y:real;end;entity d under a;z:real;end;entity e;end;");
        c.house.make(7);
        c.house.make(1);
        c.house.make(8);
        c.set(0, 2, "1");
        c.house.write();
        Checks.due("a combination", c.output(), "#0=(a($)b($)d(1.0));#1=a($);#2=e();");
        c.given("entity b under a;y:real;end;entity a;x:real;w:array[0:1] of a;end;");
        c.house.make(3);
        c.set(0, 0, "1");
        c.set(0, 1, "2");
        c.set(0, 2, "[#0,#0]");
        c.house.make(3);
        c.set(1, 2, "[#0,#1]");
        c.house.drop(0);
        c.house.write();
        Checks.due("attributes by their numbers", c.output(), "#1=b($,$,($,#1));");
    }

    private static void realIs(String given, String want) {
        c.house = new ExpressHouse();
        c.schema("schema s;entity a;r:real;end;end;");
        Checks.due("reading " + given, c.read("#1=a(" + given + ");"), 1);
        c.house.write();
        Checks.due("writing " + given, c.output(), "#0=a(" + want + ");");
    }

    private static void reals() {
        realIs("0.0", "0.0");
        realIs("-0.0", "-0.0");
        realIs("5", "5.0");
        realIs("-1.5", "-1.5");
        realIs("0.25", "0.25");
        realIs("000.250", "0.25");
        realIs("0.1", "0.1");
        realIs("999999.999999", "999999.999999");
        realIs("-0.000001", "-0.000001");
        realIs("123.456", "123.456");
        realIs("100000.0", "100000.0");
        realIs("999999", "999999.0");
        realIs("1000000", "%412e848000000000");
        realIs("-1000000", "%c12e848000000000");
        realIs("%3fd5555555555555", "%3fd5555555555555");
        realIs("%7ff0000000000000", "%7ff0000000000000");
        realIs("%fff0000000000000", "%fff0000000000000");
        realIs("%fff8000000000001", "%7ff8000000000000");
        realIs("%0000000000000001", "%0000000000000001");
        realIs("%bfe0000000000000", "-0.5");
        realIs("%3fb999999999999a", "0.1");
        realIs("%3fb999999999999b", "%3fb999999999999b");
    }

    /** What an operation on the real of instance 0 gives, as it is written. */
    private static void operationIs(String given, String exp, String want) {
        c.house = new ExpressHouse();
        c.schema("schema s;entity a;r:real;end;end;");
        c.read("#1=a(" + given + ");");
        c.set(0, 0, exp.replaceAll("\\br\\b", "#0.r"));
        c.house.write();
        Checks.due(exp + " with " + given, c.output(), "#0=a(" + want + ");");
    }

    private static void operations() {
        operationIs("%0010000000000000", "r*0.5", "%0008000000000000");
        operationIs("%0008000000000000", "r*2", "%0010000000000000");
        operationIs("%0010000000000000", "r*1", "%0010000000000000");
        operationIs("%0020000000000000", "r*0.5", "%0010000000000000");
        operationIs("%0020000000000000", "r*1", "%0020000000000000");
        operationIs("%0000000000000001", "r+r", "%0000000000000002");
        operationIs("%0000000000000001", "r*0.5", "0.0");
        operationIs("%8000000000000001", "r*0.5", "-0.0");
        operationIs("%0000000000000003", "r/2", "%0000000000000002");
        operationIs("%7fefffffffffffff", "r*1", "%7fefffffffffffff");
        operationIs("%7fefffffffffffff", "r+r", "%7ff0000000000000");
        operationIs("%ffefffffffffffff", "r*2", "%fff0000000000000");
        operationIs("%7fefffffffffffff", "r/r", "1.0");
        operationIs("%7fe0000000000000", "r-r", "0.0");
        operationIs("%4330000000000001", "floor(r)", "%4330000000000001");
        operationIs("%432fffffffffffff", "ceil(r)", "%4330000000000000");
        operationIs("%c32fffffffffffff", "floor(r)", "%c330000000000000");
        operationIs("%3fdfffffffffffff", "floor(r+0.5)", "1.0");
        operationIs("%fff0000000000000", "abs(r)", "%7ff0000000000000");
    }

    private static void fullOutput() {
        c.given("entity a;x:list[0:?] of integer;end;");
        for (int x = 0; x < 23; x++) {
            c.house.make(1);
            c.set(x, 0, "[-999999999:22]");
        }
        Checks.due("write", c.house.write(), 10 * 250 + 13 * 251);
        c.house.make(1);
        c.set(23, 0, "[-999999999:22]");
        Checks.due("write of 6014 bytes", c.house.write(), ExpressHouse.FULL);
        Checks.due("the output stays", c.house.count(10), 5763);
        c.set(0, 0, "[-999999999:21]");
        Checks.due("write of 6003 bytes", c.house.write(), ExpressHouse.FULL);
        c.set(1, 0, "[-999999999:21,-999999]");
        Checks.due("write of 6000 bytes", c.house.write(), 6000);
        Checks.due("the last byte", c.house.out(5999), ';');
        c.set(1, 0, "[-999999999:21,-9999999]");
        Checks.due("write of 6001 bytes", c.house.write(), ExpressHouse.FULL);
        Checks.due("the output stays", c.house.count(10), 6000);
    }

    private static void reading() {
        c.given(SCHEMA);
        Checks.due("an empty file", c.read(""), 0);
        Checks.due("a blank file", c.read(" \n "), 0);
        String file = "#12 = e ( #7 , ( #7 , #7 ) , $ , ( 1 , 2 ) , ( ) ) ;\n#7=b(3,%4000000000000000,.blue.); #0001=(b(1,$)a(5));";
        Checks.due("a set with the same one twice", c.readFault(file), "2@15");
        file = file.replace(", #7 )", ", #0001 )").replace("(b(1,$)a(5))", "(b(1.0,$)a(5))");
        Checks.due("a file", c.readFault(file), "fine");
        Checks.due("told(12)", c.house.told(12), 0);
        Checks.due("told(7)", c.house.told(7), 1);
        Checks.due("told(1)", c.house.told(1), 2);
        Checks.due("an instance in place 2 of a set", c.got(0, 5), "S1:5[#1,#2]");
        Checks.due("a list through a type", c.got(0, 7), "L1:1[1,2]");
        Checks.due("an empty bag", c.got(0, 8), "B1:0[]");
        Checks.due("a real by its bits", c.got(1, 1), "2.0");
        Checks.due("forms of a combination", c.house.row(2), 3);
        Checks.due("the value of an upper form", c.got(2, 0), "5");
        Checks.due("read on", c.read("#3=d(1,.f.);#4=e(#3,$,(1.0,$,2.5),$,(.red.,.red.));"), 2);
        Checks.due("made", c.house.count(7), 5);
        Checks.due("a logical", c.got(3, 3), "f");
        Checks.due("an array", c.got(4, 6), "A2:2[1.0,?,2.5]");
        Checks.due("a bag", c.got(4, 8), "B1:4[i0,i0]");
        Checks.due("an own instance", c.got(4, 4), "#3");
    }

    private static void told() {
        Checks.due("told(12) of an older file", c.house.told(12), ExpressHouse.NONE);
        Checks.due("told(4)", c.house.told(4), 4);
        Checks.due("told(-1)", c.house.told(-1), ExpressHouse.NONE);
        c.read("#9=d(1,.f.)");
        Checks.due("told of a faulty file", c.house.told(9), ExpressHouse.NONE);
        Checks.due("the file before", c.house.told(3), 3);
        Checks.due("nothing was made", c.house.count(7), 5);
        c.read("");
        Checks.due("told of an empty file", c.house.told(3), ExpressHouse.NONE);
    }

    private static void fileIs(String file, String want) {
        c.house = new ExpressHouse();
        c.schema("schema s;" + SCHEMA + "end;");
        Checks.due(file, c.readFault(file), want);
        Checks.due(file + " makes", c.house.count(7) > 0 ? 1 : 0, want.equals("fine") ? 1 : 0);
    }

    private static void forms() {
        fileIs("b", "1@0");
        fileIs("# 1=d(1,.t.);", "1@1");
        fileIs("#=d(1,.t.);", "1@1");
        fileIs("#12345=d(1,.t.);", "1@1");
        fileIs("#1234 = d ( 1 , .t. ) ; ", "fine");
        fileIs("#1", "1@2");
        fileIs("#1=", "1@3");
        fileIs("#1=d", "1@4");
        fileIs("#1=d ", "1@5");
        fileIs("#1=d(", "1@5");
        fileIs("#1=d(1,.t.)", "1@11");
        fileIs("#1=d(1,.t.);x", "1@12");
        fileIs("#1=D(1,.t.);", "1@3");
        fileIs("#1=d1234567890123(1,.t.);", "1@15");
        fileIs("#1=d(1 2);", "1@7");
        fileIs("#1=d(1,);", "1@7");
        fileIs("#1=d(,1);", "1@5");
        fileIs("#1=();", "1@4");
        fileIs("#1=(d(.t.) a(1));", "fine");
        fileIs("#1=(d(.t.),a(1));", "1@10");
        fileIs("#1=(d(.t.)a(1);", "1@14");
        fileIs("#1=d(1,. t.);", "1@8");
        fileIs("#1=d(1,.t .);", "1@9");
        fileIs("#1=d(1,..);", "1@8");
        fileIs("#1=d(1,t);", "1@7");
        fileIs("#1=d(- 1,.t.);", "1@6");
        fileIs("#1=d(1,.a12345678901.);", "2@7");
        fileIs("#1=d(1,.a123456789012.);", "1@20");
        fileIs("#1=d(1,# 1);", "1@8");
        fileIs("#1=d(1,$$);", "1@8");
        fileIs("#1=e($,((1)),$,$,$);", "1@8");
        fileIs("#1=e($,(1,$,$,$);", "1@16");
        fileIs("#1=e($,(,1),$,$,$);", "1@8");
        fileIs("#1=e($,(1 2),$,$,$);", "1@10");
        fileIs("#1=e($,(1,),$,$,$);", "1@10");
    }

    /** Section 1: the keywords look like names, but are none. A file may still go on with a longer word. */
    private static void keywords() {
        String words = "schema type enum select entity abstract under over oneof andor optional derive inverse for unique where "
            + "function var if then else repeat to by while escape skip return rule end integer real logical array list bag set "
            + "of and or xor not in div mod query true false unknown self";
        for (String word : words.split(" ")) {
            int size = word.length();
            fileIs("#1=" + word + "(1,.t.);", "1@" + (3 + size));
            fileIs("#1=" + word + " (1,.t.);", "1@" + (3 + size));
            fileIs("#1=" + word, "1@" + (3 + size));
            fileIs("#1=" + word + "s(1,.t.);", "2@3");
            fileIs("#1=(d(.t.)" + word + "());", "1@" + (10 + size));
            fileIs("#1=b(1,1.0,." + word + ".);", "1@" + (12 + size));
            fileIs("#1=b(1,1.0,." + word + "_.);", "2@11");
            fileIs("#1=e($,(." + word + ".),$,$,$);", "1@" + (9 + size));
        }
        fileIs("#1=z(true);#2=list(1);", "1@5");
        fileIs("#1=z();#2=list(1);", "1@14");
        fileIs("#1=schem", "1@8");
        fileIs("#1=schema s", "1@9");
        for (String word : "abs min usedin nvl".split(" ")) {
            fileIs("#1=" + word + "();", "2@3");
            fileIs("#1=b(1,1.0,." + word + ".);", "2@11");
        }
    }

    private static void numbers() {
        fileIs("#1=d(2147483647,.t.);", "fine");
        fileIs("#1=d(2147483648,.t.);", "1@5");
        fileIs("#1=d(-2147483648,.t.);", "fine");
        fileIs("#1=d(-2147483649,.t.);", "1@5");
        fileIs("#1=d(0000000007,.t.);", "fine");
        fileIs("#1=d(00000000007,.t.);", "1@5");
        fileIs("#1=d(-00000000007,.t.);", "1@5");
        fileIs("#1=b(1,123456.123456,$);", "fine");
        fileIs("#1=b(1,1234567.1,$);", "1@7");
        fileIs("#1=b(1,-1.1234567,$);", "1@7");
        fileIs("#1=b(1,1.,$);", "1@9");
        fileIs("#1=b(1,.1,$);", "1@8");
        fileIs("#1=b(1,1 .5,$);", "1@9");
        fileIs("#1=b(1,1. 5,$);", "1@9");
        fileIs("#1=b(1,1.5.5,$);", "1@10");
        fileIs("#1=b(1,%3ff000000000000,$);", "1@23");
        fileIs("#1=b(1,%3ff00000000000000,$);", "1@24");
        fileIs("#1=b(1,% 3ff0000000000000,$);", "1@8");
        fileIs("#1=b(1,%3FF0000000000000,$);", "1@9");
        fileIs("#1=b(1,%3ff0000000000000 ,$);", "fine");
        fileIs("#1=e(#12345,$,$,$,$);", "1@6");
    }

    private static void senses() {
        fileIs("#1=z();", "2@3");
        fileIs("#1=a(1);", "2@0");
        fileIs("#1=(b(1.0,$));", "2@0");
        fileIs("#1=(b(1.0,$)b(1.0,$));", "2@12");
        fileIs("#1=(b(1.0,$)z(1.0,$));", "2@12");
        fileIs("#1=(b(1.0,true));", "1@10");
        fileIs("#1=d($,$);#01=d($,$);", "2@10");
        fileIs("#1=d($,$);#2=z();#1=d($,$);", "2@13");
        fileIs("#1=d($,.red.);#2=z();", "2@7");
        fileIs("#1=d($);", "2@6");
        fileIs("#1=d($,$,$);", "2@10");
        fileIs("#1=d($,$,#2);", "2@9");
        fileIs("#1=d($,$,.zz.);", "2@9");
        fileIs("#1=d($,$,(.zz.));", "2@10");
        fileIs("#1=d($,$,(1,$));", "2@14");
        fileIs("#1=d();", "2@5");
        fileIs("#1=(d($)a());", "2@10");
    }

    private static void values() {
        fileIs("#1=d(1.5,$);", "2@5");
        fileIs("#1=d(1,2);", "2@7");
        fileIs("#1=b($,$,.t.);", "2@9");
        fileIs("#1=b($,$,.zz.);", "2@9");
        fileIs("#1=b($,$,.red.);", "fine");
        fileIs("#1=b($,$,(.red.));", "2@9");
        fileIs("#1=e(#2,$,$,$,$);", "2@5");
        fileIs("#1=e(#1,$,$,$,$);", "2@5");
        fileIs("#1=e(#2,$,$,$,$);#2=d($,$);", "fine");
        fileIs("#1=e(#2,$,$,$,$);#2=z($,$);", "2@5");
        fileIs("#1=e(#2,$,$,$,$);#2=(d($)z());", "2@5");
        fileIs("#1=e(#2,$,$,$,$);#2=(d($)a(2)z());", "2@29");
        fileIs("#1=e(#2,$,$,$,$);#2=a($);", "2@17");
        fileIs("#1=e(1,$,$,$,$);", "2@5");
    }

    private static void places() {
        fileIs("#1=e($,(1,2),$,$,$);", "fine");
        fileIs("#1=e($,(1,1),$,$,$);", "2@7");
        fileIs("#1=e($,(1,.red.),$,$,$);", "2@7");
        fileIs("#1=e($,(1,.zz.),$,$,$);", "2@10");
        fileIs("#1=e($,(1,.t.,.zz.),$,$,$);", "2@14");
        fileIs("#1=e($,(1.5),$,$,$);", "2@7");
        fileIs("#1=e($,(1,$),$,$,$);", "2@7");
        fileIs("#1=e($,(#2,#3),$,$,$);#2=d($,$);#3=d($,$);", "fine");
        fileIs("#1=e($,(#2,#02),$,$,$);#2=d($,$);#3=d($,$);", "2@7");
        fileIs("#1=e($,(#1),$,$,$);", "2@7");
        fileIs("#1=e($,$,(1.0,2.0,3.0),$,$);", "fine");
        fileIs("#1=e($,$,(1.0,$,3.0),$,$);", "fine");
        fileIs("#1=e($,$,($,$,$),$,$);", "fine");
        fileIs("#1=e($,$,(1.0,2.0),$,$);", "2@9");
        fileIs("#1=e($,$,(1,2,3),$,$);", "2@9");
        fileIs("#1=e($,$,$,(1,1),$);", "fine");
        fileIs("#1=e($,$,$,(1,$),$);", "2@11");
        fileIs("#1=e($,$,$,(" + "1,".repeat(23) + "1),$);", "fine");
        fileIs("#1=e($,$,$,(" + "1,".repeat(24) + "1),$);", "2@11");
        fileIs("#1=e($,$,$,(" + "1,".repeat(24) + ".zz.),$);", "2@60");
    }

    private static void many() {
        c.given("entity a;p:a;end;");
        String entries = "";
        for (int n = 0; n < 41; n++) {
            entries += "#" + n + "=a(#40);";
        }
        Checks.due("41 entries", c.readFault(entries), "2@" + entries.indexOf("#40=a"));
        Checks.due("40 entries", c.readFault(entries.substring(0, entries.indexOf("#40=a")).replace("#40)", "#0)")), "fine");
        Checks.due("one more", c.readFault("#1=a($);"), "2@0");
        Checks.due("none more", c.readFault(""), "fine");
        Checks.due("existing", c.house.count(8), 40);
    }
}
