/** Promises 17 and 39: the functions of a schema, their statements, frames and steps. */
public final class FunctionsTest {
    private static final Checks c = new Checks();

    public static void main(String[] args) {
        calls();
        assignments();
        branches();
        repeats();
        whiles();
        leaps();
        frames();
        limits();
        Checks.end("FunctionsTest");
    }

    private static void is(String exp, String want) {
        Checks.due(exp, c.value(exp), want);
    }

    private static void function(String rest) {
        c.given("type col=enum(red);end;type ints=list[0:?] of integer;end;entity a;i:integer;end;function f" + rest + "end;");
    }

    private static void calls() {
        function("(x:real,y:list[0:?] of integer):set[0:?] of integer;return y;");
        is("f(1,[2,2,3])", "S1:1[2,3]");
        is("f(true,[2])", "?");
        is("f(?,[2])", "S1:1[2]");
        is("f(1,?)", "?");
        is("f(1,[2.5])", "?");
        function("(x:real):real;return x;");
        is("f(1)", "1.0");
        is("f(f(f(2)))+1", "3.0");
        c.given("function f():real;return 1;end;");
        is("f()", "1.0");
        function("(x:real):integer;return x;");
        is("f(1)", "?");
        function("(x:integer):real;return x+1;");
        is("f(1)", "2.0");
        function("():integer;");
        is("f()", "?");
        Checks.due("steps of an empty function", c.house.count(11), 1);
        function("():integer;var x:integer;return x;");
        is("exists(f())", "f");
        function("(x:array[3:4] of integer):integer;return x[3];");
        is("f([7,8])", "7");
        is("f([7])", "?");
        function("(x:integer):integer;return x;return 5;");
        is("f(3)", "3");
    }

    private static void assignments() {
        function("(x:integer):real;var y:real;y=x;x=x+1;return y+x;");
        is("f(3)", "7.0");
        function("(x:integer):integer;x=true;return 1;");
        is("f(3)", "?");
        function("(x:integer):integer;x=?;return nvl(x,9);");
        is("f(3)", "9");
        function("(x:ints):ints;var y:ints;y=x;y[2]=9;return x+y;");
        is("f([1,2])", "L1:1[1,2,1,9]");
        is("f([1])", "?");
        is("f([])", "?");
        function("(x:list[0:?] of real):list[0:?] of real;x[1]=5;return x;");
        is("f([1.5])", "L1:2[5.0]");
        c.given("type n=integer;end;type re=real;end;function f(x:list[0:?] of n):list[0:?] of n;x[1]=5;return x;end;"
            + "function g(x:list[0:?] of re):list[0:?] of re;x[1]=5;return x;end;");
        is("f([1])", "L1:1[5]");
        is("g([1.5])", "L1:2[5.0]");
        function("(x:ints):ints;x[1]=5.5;return x;");
        is("f([1])", "?");
        function("(x:ints):ints;x[1]=?;return x;");
        is("f([1])", "?");
        function("(x:ints):ints;x[true]=1;return x;");
        is("f([1])", "?");
        function("(x:array[2:3] of integer):array[2:3] of integer;x[2]=?;x[3]=4;return x;");
        is("f([1,2])", "A2:1[?,4]");
        function("(x:set[0:?] of integer):set[0:?] of integer;x[1]=3;return x;");
        is("f([1,2])", "S1:1[3,2]");
        is("f([1,3])", "?");
        is("f([3,1])", "S1:1[3,1]");
        function("(x:bag[0:?] of integer):bag[0:?] of integer;x[1]=3;return x;");
        is("f([1,3])", "B1:1[3,3]");
        function("(x:integer):integer;x[1]=3;return x;");
        is("f(1)", "?");
        c.given("type n=integer;end;type s=select(n,a);end;entity a;q:array[0:1] of s;end;"
            + "function f(x:array[0:1] of s,y:s):array[0:1] of s;x[0]=?;x[1]=?;x[0]=y;return x;end;");
        is("f([1,2],3)", "A0:1[3,?]");
        c.house.make(1);
        is("f([1,2],#0)", "?");
        c.read("#1=a(($,$));");
        is("#1.q", "A0:0[?,?]");
        is("f(#1.q,#0)", "A0:5[#0,?]");
        c.given("entity a;q:array[0:1] of integer;end;"
            + "function f(x:array[0:1] of integer):array[0:1] of integer;x[0]=4;return x;end;");
        c.read("#1=a(($,$));");
        is("f(#0.q)", "A0:1[4,?]");
    }

    private static void branches() {
        function("(x:logical):integer;if x then return 1;else return 2;end;return 3;");
        is("f(true)", "1");
        is("f(false)", "2");
        is("f(unknown)", "2");
        is("f(?)", "2");
        function("(x:logical):integer;if 1 then return 1;end;return 3;");
        is("f(true)", "3");
        function("(x:integer):integer;if x>0 then if x>1 then return 1;else x=5;end;end;return x;");
        is("f(2)", "1");
        is("f(1)", "5");
        is("f(0)", "0");
    }

    private static void repeats() {
        function("(x:integer,y:integer,z:integer):ints;var r:ints;r=[];repeat i=x to y by z;r=r+[i];end;return r;");
        is("f(1,3,1)", "L1:1[1,2,3]");
        is("f(3,1,(0-1))", "L1:1[3,2,1]");
        is("f(1,6,2)", "L1:1[1,3,5]");
        is("f(3,1,1)", "L1:0[]");
        is("f(1,1,5)", "L1:1[1]");
        is("f(1,3,0)", "?");
        is("f(1,?,1)", "?");
        is("f(?,1,1)", "?");
        is("f(1,1,?)", "?");
        String most = "999999999*2+147483649";
        is("f(" + most + "-1," + most + ",1)", "L1:1[2147483646,2147483647]");
        is("f(" + most + "," + most + ",5)", "L1:1[2147483647]");
        is("f(-(" + most + "),-(" + most + ")-1,-2)", "L1:1[-2147483647]");
        function("():integer;var s:integer;s=0;repeat i=1 to 3;repeat i=10 to 11;s=s+i;end;s=s+i;end;return s;");
        is("f()", "69");
        function("():integer;repeat i=1.0 to 3;end;return 1;");
        is("f()", "?");
        function("(i:integer):integer;var s:integer;s=0;repeat i=1 to i;s=s+i;end;return s*100+i;");
        is("f(4)", "1004");
    }

    private static void whiles() {
        function("(x:integer):integer;while x<10;x=x*2;end;return x;");
        is("f(3)", "12");
        is("f(10)", "10");
        function("(x:integer):integer;while unknown;x=1;end;while x;x=2;end;return x;");
        is("f(3)", "3");
    }

    private static void leaps() {
        function("():integer;var s:integer;s=0;repeat i=1 to 9;if i=2 then skip;end;if i=5 then escape;end;s=s*10+i;end;return s;");
        is("f()", "134");
        function("():integer;var s:integer;s=0;while s<9;s=s+1;if s<4 then skip;end;escape;end;return s;");
        is("f()", "4");
        function("():integer;var s:integer;s=0;repeat i=1 to 2;while true;escape;end;s=s+1;end;return s;");
        is("f()", "2");
        function("():integer;var s:integer;s=0;repeat i=1 to 3;repeat j=1 to 9;if j>i then escape;end;s=s+1;end;end;return s;");
        is("f()", "6");
        function("():integer;skip;return 1;");
        is("f()", "?");
        function("():integer;if true then escape;end;return 1;");
        is("f()", "?");
    }

    private static void frames() {
        function("(x:integer):integer;var s:integer;s=0;repeat i=1 to 3;if i=2 then if x>0 then s=s+f(x-1);end;end;"
            + "s=s*10+i;end;return s;");
        is("f(0)", "123");
        is("f(1)", "12423");
        is("f(3)", "124242423");
        function("(x:integer):integer;if x=0 then return 1;end;"
            + "return sizeof(query(q<*[x,x+1]|(q=x) and (f(x-1)=1)));");
        is("f(0)", "1");
        is("f(4)", "1");
        c.given("entity a;x:integer;p:a;derive d:integer=f(x-1);e:integer=p.e;end;"
            + "function f(n:integer):integer;if n<=0 then return 0;end;return f(n-1)+1;end;");
        is("f(6)", "6");
        Checks.due("the ninth frame", c.work("f(7)"), ExpressHouse.SPENT);
        // 2 steps in the first frame, 4 of each "if", 7 of each last "return", but 2 of that of f(0)
        is("f(0)", "0");
        Checks.due("steps of f(0)", c.house.count(11), 8);
        is("f(1)", "1");
        Checks.due("steps of f(1)", c.house.count(11), 19);
        c.work("f(7)");
        Checks.due("steps before the ninth frame", c.house.count(11), 2 + 7 * (4 + 6));
        c.house.make(1);
        c.set(0, 0, "6");
        Checks.due("a derived attribute opens one, too", c.got(0, 2), "5");
        c.set(0, 0, "7");
        Checks.due("a derived attribute opens one, too", c.house.get(0, 2), ExpressHouse.SPENT);
        is("f(true)", "?");
        c.set(0, 1, "#0");
        Checks.due("a circle", c.work("#0.e"), ExpressHouse.SPENT);
        Checks.due("its steps", c.house.count(11), 2 + 7 * 2);
    }

    private static void limits() {
        c.house = new ExpressHouse();
        Checks.due("steps(0)", c.house.steps(0), ExpressHouse.BAD);
        Checks.due("steps(1001)", c.house.steps(1001), ExpressHouse.BAD);
        Checks.due("steps(-1)", c.house.steps(-1), ExpressHouse.BAD);
        Checks.due("steps(1)", c.house.steps(1), 1000);
        Checks.due("one step", c.work("1"), 1);
        Checks.due("two steps", c.work("-1"), ExpressHouse.SPENT);
        Checks.due("steps(1000)", c.house.steps(1000), 1);
        c.schema("schema s;function f():integer;while true;end;end;function g():integer;repeat i=1 to 994;end;return 7;end;"
            + "function h():integer;repeat i=1 to 995;end;return 7;end;end;");
        Checks.due("without end", c.work("f()"), ExpressHouse.SPENT);
        Checks.due("its steps", c.house.count(11), 1000);
        // call, repeat and its expressions, turns, return and its expression
        is("g()", "7");
        Checks.due("all its steps", c.house.count(11), 1 + 3 + 994 + 2);
        Checks.due("one turn more", c.work("h()"), ExpressHouse.SPENT);
        Checks.due("a spent run has all its steps", c.house.count(11), 1000);
        for (int run = 4; run <= 19; run++) {
            c.work("f()");
        }
        Checks.due("all steps", c.house.count(12), 19002);
        Checks.due("the last thousand", c.work("f()"), ExpressHouse.SPENT);
        Checks.due("all steps", c.house.count(12), 20000);
        Checks.due("its steps", c.house.count(11), 998);
        Checks.due("no more", c.work("1"), ExpressHouse.SPENT);
        Checks.due("no steps", c.house.count(11), 0);
        Checks.due("an explicit attribute needs none", c.schema("schema s;entity a;x:real;end;end;"), 1);
        c.house.make(1);
        Checks.due("an explicit attribute needs none", c.house.get(0, 0), 0);
        Checks.due("set", c.set(0, 0, "1"), ExpressHouse.SPENT);
    }
}
