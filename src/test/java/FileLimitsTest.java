/** Section 6 and promises 32 to 35: each sentence of them that names a boundary of files. */
public final class FileLimitsTest {
    private static final Checks c = new Checks();
    private static final String SCHEMA = "type col=enum(red,t,blue,f,u,z);end;type n=integer;end;entity a;i:integer;end;"
        + "entity b under a;r:real;k:col;end;"
        + "entity d under a;l:logical;end;entity e;p:a;ps:set[0:?] of n;ar:array[2:4] of real;bg:bag[0:?] of col;"
            + "li:list[0:?] of a;end;entity g;end;";
    /** Whole files, their atoms apart: blanks may stand where they are apart, and nowhere else. */
    private static final String[] ATOMS = {"#1 = b ( 12 , -12.50 , .red. ) ; #20 = d ( -7 , .t. ) ;",
        "#0001 = ( b ( %3ff0000000000000 , $ ) a ( 2147483647 ) ) ; #2 = g ( ) ;",
        "#5 = e ( #12 , ( 1 , -20 ) , ( 1.5 , $ , %fff0000000000000 ) , ( .blue. , .z. ) , ( #12 , #012 ) ) ; #12 = a ( $ ) ;",
        "#7 = e ( $ , ( ) , $ , ( ) , ( ) ) ;"};

    public static void main(String[] args) {
        blanksBetween();
        blanksWithin();
        endsTooEarly();
        otherBytes();
        numbersOfEntries();
        integers();
        reals();
        bitsOfReals();
        names();
        logicalsAndItems();
        aggregatesInAggregates();
        entriesInTheirOrder();
        faultsOfEntries();
        faultsOfForms();
        faultsOfValues();
        faultsOfAggregates();
        placesOfAggregates();
        alikeInSets();
        references();
        numbersOfValues();
        fortyInstances();
        toldNumbers();
        formsOfEntitiesInAnyOrder();
        writtenForms();
        writtenNumbers();
        writtenReals();
        sixThousandBytes();
        Checks.end("FileLimitsTest");
    }

    private static void fileIs(String file, String want) {
        c.house = new ExpressHouse();
        c.schema("schema s;" + SCHEMA + "end;");
        Checks.due(file, c.readFault(file), want);
        Checks.due("instances of " + file, c.house.count(7) > 0 ? 1 : 0, want.equals("fine") && !file.trim().isEmpty() ? 1 : 0);
    }

    private static String joined(String[] atoms, String between) {
        return String.join(between, atoms);
    }

    /** "Blanks and line feeds may stand between all these" */
    private static void blanksBetween() {
        for (String file : ATOMS) {
            String[] atoms = file.split(" ");
            for (String between : new String[] {"", " ", "\n", " \n  \n"}) {
                fileIs(joined(atoms, between), "fine");
                fileIs(between + joined(atoms, between) + between, "fine");
            }
            for (int i = 0; i <= atoms.length; i++) {
                String[] before = java.util.Arrays.copyOfRange(atoms, 0, i);
                String[] behind = java.util.Arrays.copyOfRange(atoms, i, atoms.length);
                String head = joined(before, "");
                fileIs(head + " " + joined(behind, ""), "fine");
                fileIs(head + "\n" + joined(behind, ""), "fine");
                for (int b : new int[] {0, 9, 13, 160}) {
                    fileIs(head + (char) b + joined(behind, ""), "1@" + head.length());
                }
            }
        }
    }

    /**
     * "but not within names and digits, nor behind "#", "-" and "%", nor between the two points of ".NAME.", nor around the
     * point of a real"
     */
    private static void blanksWithin() {
        for (String file : ATOMS) {
            String[] atoms = file.split(" ");
            String head = "";
            for (int i = 0; i < atoms.length; i++) {
                String behind = joined(java.util.Arrays.copyOfRange(atoms, i + 1, atoms.length), "");
                for (int j = 1; j < atoms[i].length(); j++) {
                    boolean atBlank = "%.".indexOf(atoms[i].charAt(0)) >= 0 || "#-.".indexOf(atoms[i].charAt(j - 1)) >= 0;
                    int place = head.length() + j + (atBlank ? 0 : 1);
                    fileIs(head + atoms[i].substring(0, j) + " " + atoms[i].substring(j) + behind, "1@" + place);
                }
                head += atoms[i];
            }
        }
    }

    /** "its length if it ends too early" */
    private static void endsTooEarly() {
        for (String file : ATOMS) {
            String[] atoms = file.split(" ");
            String head = "";
            for (String atom : atoms) {
                for (int j = 1; j < atom.length(); j++) {
                    fileIs(head + atom.substring(0, j), "1@" + (head.length() + j));
                }
                head += atom;
                if (!atom.equals(";")) {
                    fileIs(head, "1@" + head.length());
                    fileIs(head + " \n", "1@" + (head.length() + 2));
                }
            }
        }
        fileIs("", "fine");
        fileIs("#1=g();", "fine");
        fileIs("#1=g();#2=a(1); ", "fine");
    }

    /** "number 1 at the first byte with which no file goes on" */
    private static void otherBytes() {
        for (String atoms : ATOMS) {
            String file = atoms.replace(" ", "");
            for (int i = 0; i < file.length(); i++) {
                for (char other : new char[] {'!', '[', 'A', '~', '*', (char) 200}) {
                    fileIs(file.substring(0, i) + other + file.substring(i + 1), "1@" + i);
                    fileIs(file.substring(0, i) + other + file.substring(i), "1@" + i);
                }
            }
            fileIs(file + "x", "1@" + file.length());
            fileIs(file + " 1", "1@" + (file.length() + 1));
            fileIs(file + "#", "1@" + (file.length() + 1));
        }
    }

    /** "n is 1 to 4 digits." */
    private static void numbersOfEntries() {
        fileIs("#0=g();", "fine");
        fileIs("#0000=g();", "fine");
        fileIs("#9999=g();#999=g();#99=g();#9=g();", "fine");
        fileIs("#10000=g();", "1@1");
        fileIs("#00001=g();", "1@1");
        fileIs("#=g();", "1@1");
        fileIs("#-1=g();", "1@1");
        fileIs("#1a=g();", "1@2");
        fileIs("#1.5=g();", "1@2");
        fileIs("#1=e(#10000,$,$,$,$);", "1@6");
        fileIs("#1=e($,$,$,$,(#2,#00002));#2=a($);", "1@18");
        fileIs("#1=e(#,$,$,$,$);", "1@6");
        fileIs("#1=g();#01=g();", "2@7");
        fileIs("#0=g();#00=g();", "2@7");
        fileIs("#10=g();#1=g();", "fine");
    }

    private static void integerIs(String given, String want) {
        fileIs("#1=a(" + given + ");", want);
        if (want.equals("fine")) {
            Checks.due(given, c.got(0, 0), "" + Long.parseLong(given));
        }
        // in a list it stands three bytes later
        String later = want.equals("fine") ? want : "1@" + (Integer.parseInt(want.substring(2)) + 3);
        fileIs("#1=e($,(" + given + "),$,$,$);", later);
    }

    /** "An integer is perhaps "-" and 1 to 10 digits, within 32 bits" */
    private static void integers() {
        for (String fine : "0 -0 1 -1 9 10 99 100 2147483647 -2147483648 0000000000 -0000000001 0000000010".split(" ")) {
            integerIs(fine, "fine");
        }
        String outside = "2147483648 -2147483649 9999999999 -9999999999 4294967296 4294967295 6442450943 00000000000 -00000000000 "
            + "10000000000 99999999999999999999 -99999999999999999999 18446744073709551617";
        for (String wrong : outside.split(" ")) {
            integerIs(wrong, "1@5");
        }
        integerIs("-", "1@6");
        integerIs("--1", "1@6");
        integerIs("+1", "1@5");
        integerIs("1-", "1@6");
        integerIs("-a", "1@6");
        integerIs("-$", "1@6");
        integerIs("12a", "1@7");
        integerIs("1 2", "1@7");
    }

    private static void realIs(String given, String want) {
        fileIs("#1=b($," + given + ",$);", want);
        if (want.equals("fine")) {
            c.house.get(0, 1);
            Checks.due(given, c.house.bits(ExpressHouse.NONE), Double.doubleToLongBits(Double.parseDouble(given)));
        }
    }

    /** "a real is perhaps "-", 1 to 6 digits, ".", 1 to 6 digits, with the value as for texts, negated with "-"" */
    private static void reals() {
        String inside = "0.0 -0.0 1.5 -1.5 999999.999999 -999999.999999 000001.000000 0.000001 -0.000001 0.1 0.3 123456.7 1.234567";
        for (String fine : inside.split(" ")) {
            realIs(fine, "fine");
        }
        String outside = "1234567.5 -1234567.5 0000001.5 1.1234567 -1.1234567 1.0000000 1234567.1234567 12345678901.5 1.12345678901";
        for (String wrong : outside.split(" ")) {
            realIs(wrong, "1@7");
        }
        realIs("1.", "1@9");
        realIs("-1.", "1@10");
        realIs("-.5", "1@8");
        realIs("1.5.5", "1@10");
        realIs("1.-5", "1@9");
        realIs("1.a", "1@9");
        realIs("1..5", "1@9");
        realIs("5", "fine");
        realIs("-5", "fine");
        realIs("2147483647", "fine");
        realIs("2147483648", "1@7");
    }

    /** ""%" is followed by the bits of a real, with the digits 0 to 9 and a to f" */
    private static void bitsOfReals() {
        String[] bits = {"0000000000000000", "8000000000000000", "3ff0000000000000", "0123456789abcdef", "fedcba9876543210",
            "7ff0000000000000",
            "fff0000000000000", "7ff8000000000000", "7ff0000000000001", "ffffffffffffffff", "fff8000000000000", "0000000000000001"};
        for (String one : bits) {
            fileIs("#1=b($,%" + one + ",$);", "fine");
            c.house.get(0, 1);
            double value = Double.longBitsToDouble(Long.parseUnsignedLong(one, 16));
            Checks.due(one, c.house.bits(ExpressHouse.NONE), Double.doubleToLongBits(value));
            fileIs("#1=b($,%" + one.substring(1) + ",$);", "1@23");
            fileIs("#1=b($,%" + one + "0,$);", "1@24");
            fileIs("#1=b($,%" + one.substring(1) + "g,$);", "1@23");
            fileIs("#1=b($,%" + one.substring(1) + "A,$);", "1@23");
        }
        fileIs("#1=b($,%,$);", "1@8");
        fileIs("#1=b($,-%3ff0000000000000,$);", "1@8");
        fileIs("#1=b($,%-3ff0000000000000,$);", "1@8");
    }

    /** Names have at most twelve bytes, and begin with a letter. */
    private static void names() {
        fileIs("#1=abcdefghijkl();", "2@3");
        fileIs("#1=abcdefghijklm();", "1@15");
        fileIs("#1=abcdefghijkl", "1@15");
        fileIs("#1=a23456789_12();", "2@3");
        fileIs("#1=a23456789_123();", "1@15");
        fileIs("#1=_a();", "1@3");
        fileIs("#1=1a();", "1@3");
        fileIs("#1=(abcdefghijklm());", "1@16");
        fileIs("#1=b($,$,.abcdefghijkl.);", "2@9");
        fileIs("#1=b($,$,.abcdefghijklm.);", "1@22");
        fileIs("#1=b($,$,._a.);", "1@10");
        fileIs("#1=b($,$,.1.);", "1@10");
        c.given("type k=enum(i23456789_12);end;entity e23456789_12;a:k;end;");
        Checks.due("names of twelve bytes", c.readFault("#1=e23456789_12(.i23456789_12.);"), "fine");
        Checks.due("its value", c.got(0, 0), "i0");
        c.house.write();
        Checks.due("the output", c.output(), "#0=e23456789_12(.i23456789_12.);");
    }

    /** "".t.", ".f.", ".u." are the logicals true, false, unknown (also if an item has this name)" */
    private static void logicalsAndItems() {
        String[] names = {"t", "f", "u", "red", "blue", "z", "tt"};
        String[] logicals = {"t", "f", "u", "", "", "", ""};
        String[] items = {"", "", "", "i0", "i2", "i5", ""};
        for (int i = 0; i < names.length; i++) {
            fileIs("#1=d($,." + names[i] + ".);", logicals[i].isEmpty() ? "2@7" : "fine");
            if (!logicals[i].isEmpty()) {
                Checks.due("." + names[i] + ".", c.got(0, 3), logicals[i]);
            }
            fileIs("#1=b($,$,." + names[i] + ".);", items[i].isEmpty() ? "2@9" : "fine");
            if (!items[i].isEmpty()) {
                Checks.due("." + names[i] + ".", c.got(0, 2), items[i]);
            }
        }
        fileIs("#1=e($,$,$,(.red.,.blue.,.red.),$);", "fine");
        Checks.due("items in a bag", c.got(0, 7), "B1:4[i0,i2,i0]");
        fileIs("#1=e($,$,$,(.t.),$);", "2@11");
        fileIs("#1=d($,.T.);", "1@8");
        fileIs("#1=d($,t);", "1@7");
        fileIs("#1=d($,.t);", "1@9");
        fileIs("#1=d($,t.);", "1@7");
    }

    /** "no aggregate may stand in an aggregate" */
    private static void aggregatesInAggregates() {
        fileIs("#1=e($,((1)),$,$,$);", "1@8");
        fileIs("#1=e($,(1,(2)),$,$,$);", "1@10");
        fileIs("#1=e($,( ( 1 ) ),$,$,$);", "1@9");
        fileIs("#1=e($,(()),$,$,$);", "1@8");
        fileIs("#1=e($,$,$,$,$,((1)));", "1@16");
        fileIs("#1=a((1));", "2@5");
        fileIs("#1=a(((1)));", "1@6");
        fileIs("#1=a((1,2)(3));", "1@10");
    }

    /** "adds its instances to the population, in their order" */
    private static void entriesInTheirOrder() {
        c.given(SCHEMA);
        c.house.make(1);
        c.set(0, 0, "5");
        Checks.due("read", c.read("#9=a(1);#3=e(#5,$,$,$,(#5,#9));#5=d(2,.t.);#0=g();"), 4);
        Checks.due("one that was there before", c.got(0, 0), "5");
        int[] rows = {1, 1, 8, 5, 16};
        for (int x = 0; x < 5; x++) {
            Checks.due("row(" + x + ")", c.house.row(x), rows[x]);
        }
        Checks.due("a later one", c.got(2, 4), "#3");
        Checks.due("both", c.got(2, 8), "L1:5[#3,#1]");
        int[][] told = {{9, 1}, {3, 2}, {5, 3}, {0, 4}, {1, -3}, {2, -3}, {-1, -3}, {10000, -3}, {Integer.MAX_VALUE, -3},
            {Integer.MIN_VALUE, -3}};
        for (int[] one : told) {
            Checks.due("told(" + one[0] + ")", c.house.told(one[0]), one[1]);
        }
        Checks.due("another file", c.read("#9=a(1);"), 1);
        Checks.due("told(9)", c.house.told(9), 5);
        Checks.due("told(3)", c.house.told(3), ExpressHouse.NONE);
    }

    /**
     * "at the "#" of an entry: its n has occurred before, or its combination (...) is not allowed, or it would be a 41st
     * instance"
     */
    private static void faultsOfEntries() {
        fileIs("#1=g();#2=g();#1=g();", "2@14");
        fileIs("#1=g();#1=zz();", "2@7");
        fileIs("#1=zz();#1=g();", "2@3");
        fileIs("#1=(b($,$));", "2@0");
        fileIs(" #1=(b($,$));", "2@1");
        fileIs("#1=(a($)g());", "2@0");
        fileIs("#1=(b($,$)zz());", "2@10");
        fileIs("#1=(b($,$)b($,$));", "2@10");
        fileIs("#1=(a($)b($,$)d($)a($));", "2@18");
        fileIs("#1=(a($)b($,$)d($));", "fine");
        fileIs("#1=(a($));", "fine");
        c.given("entity a abstract over oneof(b,d);end;entity b under a;end;entity d under a;end;entity e;end;");
        String[][] files = {{"#1=a();", "2@0"}, {"#1=b();", "fine"}, {"#1=(a());", "2@0"}, {"#1=(b()a());", "fine"},
            {"#1=(a()b()d());", "2@0"}, {"#1=(b());", "2@0"}, {"#1=(e()a()b());", "2@0"}, {"#1=e();#2=(b());", "2@7"}};
        for (String[] file : files) {
            Checks.due(file[0], c.readFault(file[0]), file[1]);
        }
    }

    /** "at a name of a form: it is no entity, or occurs a second time in its entry" */
    private static void faultsOfForms() {
        for (String name : new String[] {"zz", "col", "red", "n", "i", "s", "abs"}) {
            fileIs("#1=" + name + "();", "2@3");
            fileIs("#1= " + name + " ();", "2@4");
            fileIs("#1=(a($)" + name + "());", "2@8");
            fileIs("#1=(" + name + "()a($));", "2@4");
        }
        fileIs("#1=(g()g());", "2@7");
        fileIs("#1=(g()zz()g());", "2@7");
        fileIs("#1=(g() g ());", "2@8");
        fileIs("#1=g();#2=g();", "fine");
    }

    /** "at a value: it does not fit its attribute", "no entry of the file has this n", "there is no such item" */
    private static void faultsOfValues() {
        String[] values = {"$", "7", "1.5", "%3ff0000000000000", ".t.", ".red.", ".zz.", "#2", "#3", "#4", "#9", "()", "(7)",
            "($)"};
        String[] fine = {"$ 7", "$ 7 1.5 %3ff0000000000000", "$ .red.", "$ .t.", "$ #2 #3", "$ () (7)"};
        String[] forms = {"#1=a(@);", "#1=(a($)b(@,$));", "#1=(a($)b($,@));", "#1=d($,@);", "#1=e(@,$,$,$,$);", "#1=e($,@,$,$,$);"};
        String others = "#2=a($);#3=d($,$);#4=g();";
        for (int f = 0; f < forms.length; f++) {
            for (String value : values) {
                String want = (" " + fine[f] + " ").contains(" " + value + " ") ? "fine" : "2@" + forms[f].indexOf('@');
                fileIs(forms[f].replace("@", value) + others, want);
                String spaced = forms[f].replace("@", " \n" + value + " ") + others;
                fileIs(spaced, want.equals("fine") ? want : "2@" + (forms[f].indexOf('@') + 2));
            }
        }
    }

    /** "An aggregate, if nothing inside it is at fault, does not fit either if it has ..." */
    private static void faultsOfAggregates() {
        String others = "#2=a($);#3=d($,$);#4=g();";
        String[] values = {"()", "(7)", "(7,7)", "(7,8)", "(7,$)", "($)", "(7,1.5)", "(1.5)", "(1.5,2.5,1.5)", "($,$,$)",
            "(1.5,$,2.5)", "(1.5,$,7)", "(1.5,2.5)",
            "(7,8,9)", "(.red.)", "(.red.,.red.)", "(.red.,7)", "(.t.)", "(.t.,.red.)", "(#2)", "(#2,#3)", "(#2,#2)", "(#2,#4)",
                "(#4)", "(#2,7)", "($,#2)", "(%7ff8000000000000,1.5,$)"};
        String[] fine = {"() (7) (7,8) (7,8,9)", "(1.5,2.5,1.5) ($,$,$) (1.5,$,2.5) (%7ff8000000000000,1.5,$)",
            "() (.red.) (.red.,.red.)", "() (#2) (#2,#3) (#2,#2)"};
        String[] forms = {"#1=e($,@,$,$,$);", "#1=e($,$,@,$,$);", "#1=e($,$,$,@,$);", "#1=e($,$,$,$,@);", "#1=e(@,$,$,$,$);",
            "#1=a(@);"};
        for (int f = 0; f < forms.length; f++) {
            for (String value : values) {
                boolean fits = f < fine.length && (" " + fine[f] + " ").contains(" " + value + " ");
                fileIs(forms[f].replace("@", value) + others, fits ? "fine" : "2@" + forms[f].indexOf('@'));
                // what is at fault inside comes before
                String inside = value.equals("()") ? "(#9)" : value.replace(")", ",#9)");
                fileIs(forms[f].replace("@", inside) + others, "2@" + (forms[f].indexOf('@') + inside.indexOf("#9")));
                inside = value.equals("()") ? "(.zz.)" : value.replace("(", "(.zz.,");
                fileIs(forms[f].replace("@", inside) + others, "2@" + (forms[f].indexOf('@') + 1));
            }
        }
    }

    /** "more than 24 places" */
    private static void placesOfAggregates() {
        c.given("entity e;l:list[0:?] of integer;a:array[0:?] of integer;s:set[0:?] of integer;b:bag[0:?] of e;end;");
        String ones = Checks.repeated("1,", 23);
        String rising = Checks.repeated("@,", 23);
        String own = Checks.repeated("#1,", 23);
        String[] fine = {"(" + ones + "1)", "(" + ones + "$)", "(" + rising + "23)", "(" + own + "#1)"};
        String[] wrong = {"(" + ones + "1,1)", "(" + ones + "$,$)", "(" + rising + "23,24)", "(" + own + "#1,#1)"};
        for (int a = 0; a < 4; a++) {
            String before = "#1=e(" + Checks.repeated("$,", a);
            String behind = Checks.repeated(",$", 3 - a) + ");";
            int x = c.house.count(7);
            Checks.due("24 places", c.readFault(before + fine[a] + behind), "fine");
            c.house.get(x, a);
            Checks.due("its places", c.house.hand(3), 24);
            Checks.due("25 places", c.readFault(before + wrong[a] + behind), "2@" + before.length());
            Checks.due("a fault in place 26", c.readFault(before + wrong[a].replace(")", ",.zz.)") + behind), "2@" + (before
                + wrong[a]).length());
            Checks.due("a fault in place 26", c.readFault(before + wrong[a].replace(")", ",#2)") + behind), "2@" + (before
                + wrong[a]).length());
            Checks.due("no form in place 26", c.readFault(before + wrong[a].replace(")", ",)") + behind), "1@" + (before
                + wrong[a]).length());
        }
        c.given("entity e;a:array[1:24] of integer;end;");
        Checks.due("24 places", c.readFault("#1=e((" + ones + "1));"), "fine");
        Checks.due("23 places", c.readFault("#1=e((" + ones.substring(0, 45) + "));"), "2@5");
        c.given("type t=array[7:?] of integer;end;type u=t;end;entity e;a:u;end;");
        Checks.due("through types", c.readFault("#1=e((5,$));"), "fine");
        Checks.due("its low index", c.got(0, 0), "A7:1[5,?]");
        Checks.due("nothing only", c.readFault("#1=e(($,$));"), "fine");
        Checks.due("its lane", c.got(1, 0), "A7:0[?,?]");
    }

    /** "in a set the same instance twice or other values that are alike" */
    private static void alikeInSets() {
        c.given("type k=enum(i,j);end;entity e;r:set[0:?] of real;l:set[0:?] of logical;t:set[0:?] of k;x:set[0:?] of g;"
            + "b:bag[0:?] of real;end;entity g;z:integer;end;");
        String[][] sets = {{"(1.5,2.5)", "fine"}, {"(1.5,1.50)", "2@5"}, {"(0.0,-0.0)", "2@5"}, {"(-0.0,0.0)", "2@5"},
            {"(1.5,%3ff8000000000000)", "2@5"}, {"(%7ff8000000000000,%7ff8000000000000)", "fine"}, {"(1.5,2.5,3.5,2.5)", "2@5"},
            {"(1.5,2.5,3.5,1.5)", "2@5"}, {"(1.5)", "fine"}, {"()", "fine"}};
        for (String[] set : sets) {
            Checks.due(set[0], c.readFault("#1=e(" + set[0] + ",$,$,$,$);"), set[1]);
            Checks.due(set[0] + " in a bag", c.readFault("#1=e($,$,$,$," + set[0] + ");"), "fine");
        }
        Checks.due("logicals", c.readFault("#1=e($,(.t.,.f.,.u.),$,$,$);"), "fine");
        Checks.due("logicals", c.readFault("#1=e($,(.u.,.f.,.u.),$,$,$);"), "2@7");
        Checks.due("items", c.readFault("#1=e($,$,(.i.,.j.),$,$);"), "fine");
        Checks.due("items", c.readFault("#1=e($,$,(.i.,.j.,.i.),$,$);"), "2@9");
        Checks.due("alike instances", c.readFault("#1=e($,$,$,(#2,#3),$);#2=g(1);#3=g(1);"), "fine");
        Checks.due("the same one", c.readFault("#1=e($,$,$,(#2,#3,#02),$);#2=g(1);#3=g(2);"), "2@11");
        c.read("#1=e($,$,$,(#2,#3),$);#2=g(1);#3=g(1);");
        c.house.get(c.house.told(1), 3);
        Checks.due("places of the set", c.house.hand(3), 2);
    }

    /** "(an instance has the combination that the entity names of its entry give)" */
    private static void references() {
        fileIs("#1=e(#2,$,$,$,$);#2=g();", "2@5");
        fileIs("#1=e(#2,$,$,$,$);#2=d($,$);", "fine");
        fileIs("#1=e(#2,$,$,$,$);#2=(a($)d($));", "fine");
        fileIs("#2=d($,$);#1=e(#2,$,$,$,$);", "fine");
        fileIs("#1=e(#1,$,$,$,$);", "2@5");
        fileIs("#1=e(#2,$,$,$,$);", "2@5");
        fileIs("#1=e(#2,$,$,$,$);#2=zz();", "2@5");
        fileIs("#1=e(#2,$,$,$,$);#2=(a($)zz());", "2@25");
        fileIs("#1=e(#2,$,$,$,$);#2=(a($)a($));", "2@25");
        fileIs("#1=e(#2,$,$,$,$);#2=(a($)zz()a($));", "2@25");
        fileIs("#1=e(#2,$,$,$,$);#2=(b($,$));", "2@5");
        fileIs("#1=e($,$,$,$,(#2,#3));#2=a($);#3=g();", "2@13");
        fileIs("#1=e($,$,$,$,(#2,#3));#2=a($);", "2@17");
        fileIs("#1=e(#2,$,$,$,$);#2=a($);#2=g();", "2@25");
        fileIs("#1=e(#2,$,$,$,$);#2=g();#2=a($);", "2@5");
        c.given("entity a;p:a;end;");
        c.house.make(1);
        Checks.due("an instance that is in no entry", c.readFault("#1=a(#0);"), "2@5");
        Checks.due("numbers of entries, not of instances", c.readFault("#0=a(#0);"), "fine");
        Checks.due("numbers of entries, not of instances", c.got(1, 0), "#1");
        // the entity stands in the text before the one above it
        c.given("entity b under a;y:integer;end;entity a;x:integer;w:a;end;");
        Checks.due("a form alone of entity 0", c.readFault("#1=b(1,2,#1);"), "fine");
        Checks.due("its combination", c.house.row(0), 3);
        Checks.due("values by the numbers of the attributes", c.got(0, 0) + c.got(0, 1) + c.got(0, 2), "12#0");
        Checks.due("one value less", c.readFault("#1=b(1,2);"), "2@8");
    }

    /** "at the ")" of a form: it has not as many values as there are attributes", "Values that are too many fit" */
    private static void numbersOfValues() {
        String[][] files = {{"#1=g();", "fine"}, {"#1=g($);", "2@6"}, {"#1=a();", "2@5"}, {"#1=a($);", "fine"},
            {"#1=a($,$);", "2@8"}, {"#1=d($);", "2@6"}, {"#1=d($,$);", "fine"}, {"#1=d($,$,7);", "2@10"},
            {"#1=d($,$,1.5,.red.,(1,$,.t.));", "2@28"}, {"#1=d($,$,#9);", "2@9"}, {"#1=d($,$,.zz.);", "2@9"},
            {"#1=d($,$,(#9));", "2@10"}, {"#1=d($,$,(.t.,.zz.));", "2@14"}, {"#1=d( );", "2@6"}, {"#1=d($ );", "2@7"},
            {"#1=d(1.5);", "2@5"}, {"#1=d(1.5,$,$);", "2@5"}, {"#1=(a()d($));", "2@6"}, {"#1=(a($)d());", "2@10"},
            {"#1=(a($)d($,$));", "2@13"}, {"#1=(d()a(1.5));", "2@6"},
            {"#1=d($,$,(" + Checks.repeated("1,", 30) + "1));", "2@" + (10 + 62)}};
        for (String[] file : files) {
            fileIs(file[0], file[1]);
        }
    }

    /** "or it would be a 41st instance" */
    private static void fortyInstances() {
        for (int made = 0; made <= 40; made++) {
            c.given("entity g;p:g;end;");
            for (int x = 0; x < made; x++) {
                c.house.make(1);
            }
            c.house.drop(0);
            StringBuilder file = new StringBuilder();
            for (int n = 0; n < 40 - made; n++) {
                file.append("#").append(n).append("=g($);");
            }
            int size = file.length();
            Checks.due("one too many behind " + made, c.readFault(file + "#99=g($);#98=g($);"), "2@" + size);
            Checks.due("none of them is made", c.house.count(7), made);
            Checks.due("one too many is referred to", c.readFault(file + "#99=g(#97);#98=g($);#97=g($);"), "2@" + size);
            Checks.due("just as many", c.read(file.toString()), 40 - made);
            Checks.due("made", c.house.count(7), 40);
        }
    }

    /** Promise 35: "of the file that was read by the latest call of read() without a fault" */
    private static void toldNumbers() {
        c.given("entity g;end;");
        Checks.due("no file", c.house.told(1), ExpressHouse.NONE);
        c.read("#1=g();#0002=g();#9999=g();");
        int[][] told = {{1, 0}, {2, 1}, {9999, 2}, {0, -3}, {3, -3}, {-1, -3}, {10001, -3}};
        for (String other : new String[] {"#", "#1=g(", "#3=g();#3=g();", "#4=zz();"}) {
            for (int[] one : told) {
                Checks.due("told(" + one[0] + ")", c.house.told(one[0]), one[1]);
            }
            c.read(other);
        }
        c.house.drop(1);
        Checks.due("of a dropped one", c.house.told(2), 1);
        c.schema("schema s;entity");
        Checks.due("behind a faulty schema", c.house.told(2), 1);
        c.schema("schema s;entity g;end;end;");
        Checks.due("behind a schema", c.house.told(2), ExpressHouse.NONE);
        c.read("#1=g();");
        Checks.due("of another file", c.house.told(1), 0);
        c.read(" ");
        Checks.due("of an empty file", c.house.told(1), ExpressHouse.NONE);
    }

    private static void formsOfEntitiesInAnyOrder() {
        c.given(SCHEMA);
        c.read("#1=(d(.f.)b(2.5,.z.)a(7));#2=(a(8));#3=(b(1.5,$)a($));");
        int[] rows = {7, 1, 3};
        String[] values = {"7", "2.5", "i5", "f"};
        for (int x = 0; x < 3; x++) {
            Checks.due("row", c.house.row(x), rows[x]);
        }
        for (int a = 0; a < 4; a++) {
            Checks.due("value", c.got(0, a), values[a]);
        }
        c.house.write();
        Checks.due("by their numbers", c.output(), "#0=(a(7)b(2.5,.z.)d(.f.));#1=a(8);#2=b($,1.5,$);");
    }

    /**
     * "one form alone if its combination is that of an entity and all entities above it, otherwise the forms of all its
     * entities"
     */
    private static void writtenForms() {
        c.given("entity a;x:integer;end;entity b under a;end;entity d under a;derive v:integer=1;end;entity e under b,d;"
            + "y:integer;inverse w:e for y[0:1];end;"
            + "entity f;end;");
        int[] rows = {1, 3, 5, 7, 15, 16};
        String[] want = {"a(1)", "b(1)", "d(1)", "(a(1)b()d())", "e(1,2)", "f()"};
        StringBuilder all = new StringBuilder();
        for (int x = 0; x < rows.length; x++) {
            c.house.make(rows[x]);
            c.set(x, 0, "1");
            c.set(x, 2, "2");
            all.append('#').append(x).append('=').append(want[x]).append(';');
        }
        Checks.due("write", c.house.write(), all.length());
        Checks.due("the output", c.output(), all.toString());
        c.house.drop(0);
        c.house.drop(3);
        c.house.drop(5);
        c.house.write();
        Checks.due("the output", c.output(), "#1=b(1);#2=d(1);#4=e(1,2);");
        Checks.due("it can be read", c.read("#1=b(1);#2=d(1);#4=e(1,2);#3=(a(1)b()d());"), 4);
        c.house.drop(1);
        c.house.drop(2);
        c.house.drop(4);
        c.house.write();
        Checks.due("the output", c.output(), "#6=b(1);#7=d(1);#8=e(1,2);#9=(a(1)b()d());");
        c.given("entity g;end;");
        for (int x = 0; x < 12; x++) {
            c.house.make(1);
        }
        c.house.write();
        Checks.due("numbers of two digits", c.output().substring(63), "#9=g();#10=g();#11=g();");
    }

    /** "Integers are written in decimal, without superfluous zeros." */
    private static void writtenNumbers() {
        c.given("entity a;i:integer;l:list[0:?] of integer;end;");
        String numbers = "0 1 -1 9 10 -10 11 99 100 101 999 1000 12345 -67890 999999999 1000000000 1234567890 2147483647 "
            + "-2147483648 -2147483647";
        for (String number : numbers.split(" ")) {
            c.given("entity a;i:integer;l:list[0:?] of integer;end;");
            Checks.due("read", c.read("#1=a(" + number + ",(" + number + ",0," + number + "));"), 1);
            c.house.write();
            Checks.due(number, c.output(), "#0=a(" + number + ",(" + number + ",0," + number + "));");
        }
        c.given("entity a;i:integer;l:list[0:?] of integer;end;");
        c.read("#1=a(-0,(007,-007,0000000000));");
        c.house.write();
        Checks.due("superfluous zeros", c.output(), "#0=a(0,(7,-7,0));");
    }

    private static void writtenIs(String exp, String want) {
        c.given("entity a;r:real;end;");
        c.house.make(1);
        Checks.due("set " + exp, c.set(0, 0, exp), 2);
        c.house.write();
        Checks.due(exp, c.output(), "#0=a(" + want + ");");
        Checks.due("reading it", c.read("#1=a(" + want + ");"), 1);
        c.house.get(0, 0);
        long bits = c.house.bits(ExpressHouse.NONE);
        c.house.get(1, 0);
        Checks.due("the same bits", c.house.bits(ExpressHouse.NONE), bits);
    }

    /** "with the fewest digits k behind the point (1 to 6) and at least one before it, such that ... m below 10^(6 + k)" */
    private static void writtenReals() {
        String[][] reals = {{"0.0", "0.0"}, {"-0.0", "-0.0"}, {"1", "1.0"}, {"10", "10.0"}, {"-100", "-100.0"}, {"0.1", "0.1"},
            {"0.10", "0.1"}, {"0.01", "0.01"}, {"0.001", "0.001"}, {"0.0001", "0.0001"}, {"0.00001", "0.00001"},
            {"0.000001", "0.000001"}, {"-0.000001", "-0.000001"}, {"1/10000000", "%" + hex(1e-7)},
            {"12345/10000000", "%" + hex(12345 / 1e7)}, {"999999.9", "999999.9"}, {"999999.99", "999999.99"},
            {"999999.999", "999999.999"}, {"999999.9999", "999999.9999"}, {"999999.99999", "999999.99999"},
            {"999999.999999", "999999.999999"}, {"999999", "999999.0"}, {"1000000", "%" + hex(1e6)},
            {"1000000+0.5", "%" + hex(1000000.5)}, {"-1000000", "%" + hex(-1e6)}, {"-999999", "-999999.0"}, {"1/8", "0.125"},
            {"1/64", "0.015625"}, {"1/128", "%" + hex(1.0 / 128)}, {"1/3", "%" + hex(1.0 / 3)}, {"-1/3", "%" + hex(-1.0 / 3)},
            {"0.1+0.2", "%" + hex(0.1 + 0.2)}, {"0.3", "0.3"}, {"0/0", "%7ff8000000000000"}, {"-(0/0)", "%7ff8000000000000"},
            {"1/0", "%7ff0000000000000"}, {"-1/0", "%fff0000000000000"}, {"123456.654321", "123456.654321"}, {"1.5", "1.5"},
            {"2.50", "2.5"}, {"100000.000001", "100000.000001"},
            {"999999.999999+0.000001", "%" + hex(999999.999999 + 0.000001)}, {"-0.5", "-0.5"}, {"-12.25", "-12.25"},
            {"10.01", "10.01"}, {"9.9", "9.9"}, {"999999999*1.0", "%" + hex(999999999.0)}};
        for (String[] real : reals) {
            writtenIs(real[0], real[1]);
        }
        for (String bits : new String[] {"3fb99999999999a1", "0123456789abcdef", "fedcba9876543210", "8000000000000001",
            "7fefffffffffffff", "412e847fffffffff"}) {
            c.given("entity a;r:real;end;");
            c.read("#1=a(%" + bits + ");");
            c.house.write();
            Checks.due(bits, c.output(), "#0=a(%" + bits + ");");
        }
    }

    private static String hex(double value) {
        return String.format("%016x", Double.doubleToLongBits(value));
    }

    /** Promise 32: "FULL if it would have more than 6000 (then it stays)" */
    private static void sixThousandBytes() {
        c.given("entity a;x:list[0:?] of integer;end;");
        for (int x = 0; x < 23; x++) {
            c.house.make(1);
            c.set(x, 0, "[-999999999:22]");
        }
        Checks.due("write", c.house.write(), 5763);
        String before = c.output();
        c.house.make(1);
        // an entry of 237 bytes: "#23=a(" and ");" and "()" and 227 bytes
        c.set(23, 0, "[-999999999:20,-999999]");
        Checks.due("6000 bytes", 5763 + "#23=a(());".length() + 20 * 11 + 7, 6000);
        c.set(23, 0, "[-999999999:20,-9999999]");
        Checks.due("write of 6001 bytes", c.house.write(), ExpressHouse.FULL);
        Checks.due("the output stays", c.house.count(10), 5763);
        Checks.due("the output stays", c.output(), before);
        Checks.due("no byte behind it", c.house.out(5763), ExpressHouse.BAD);
        c.set(23, 0, "[-999999999:20,-999999]");
        Checks.due("write of 6000 bytes", c.house.write(), 6000);
        Checks.due("the last byte", c.house.out(5999), ';');
        Checks.due("no byte behind it", c.house.out(6000), ExpressHouse.BAD);
        String full = c.output();
        c.set(0, 0, "[1]");
        c.set(1, 0, "[-999999999:24]");
        c.set(2, 0, "[-999999999:24]");
        for (int x = 3; x < 23; x++) {
            c.set(x, 0, "[-999999999:24]");
        }
        Checks.due("write of too many bytes", c.house.write(), ExpressHouse.FULL);
        Checks.due("the output stays", c.output(), full);
        for (int x = 1; x < 24; x++) {
            c.house.drop(x);
        }
        Checks.due("write of a few bytes", c.house.write(), 10);
        Checks.due("the output", c.output(), "#0=a((1));");
        Checks.due("out(-1)", c.house.out(-1), ExpressHouse.BAD);
        Checks.due("out(MIN)", c.house.out(Integer.MIN_VALUE), ExpressHouse.BAD);
        Checks.due("out(10)", c.house.out(10), ExpressHouse.BAD);
        c.house.drop(0);
        Checks.due("write of nothing", c.house.write(), 0);
        Checks.due("out(0)", c.house.out(0), ExpressHouse.BAD);
    }
}
