/** Promises 36 to 38: saved populations. */
public final class SavedTest {
    private static final Checks c = new Checks();

    public static void main(String[] args) {
        c.given("entity a;x:integer;p:list[0:?] of a;end;");
        Checks.due("commit of none", c.house.commit(), ExpressHouse.NONE);
        Checks.due("abort of none", c.house.abort(), ExpressHouse.NONE);
        restored();
        committed();
        Checks.end("SavedTest");
    }

    private static void restored() {
        c.house.make(1);
        c.house.make(1);
        c.set(0, 0, "5");
        c.set(0, 1, "[#1,#0]");
        Checks.due("begin", c.house.begin(), 1);
        Checks.due("begin again", c.house.begin(), ExpressHouse.NONE);
        c.set(0, 0, "6");
        c.house.drop(1);
        c.house.make(1);
        c.house.make(1);
        c.set(3, 0, "9");
        c.work("[#0,#3]");
        c.house.take(0);
        c.work("[1,2]");
        c.house.take(1);
        c.house.keep(2);
        Checks.due("abort", c.house.abort(), 1);
        Checks.due("the hand", c.hand(), "?");
        Checks.due("the slot", c.house.like(2), 1);
        Checks.due("a row of lane 5", c.house.back(0), -21);
        Checks.due("another row", c.house.back(1), 2);
        Checks.due("made", c.house.count(7), 2);
        Checks.due("existing", c.house.count(8), 2);
        Checks.due("an attribute", c.got(0, 0), "5");
        Checks.due("an aggregate", c.got(0, 1), "L1:5[#1,#0]");
        Checks.due("what was made", c.house.row(2), ExpressHouse.BAD);
        Checks.due("nothing is saved then", c.house.abort(), ExpressHouse.NONE);
        Checks.due("the next number", c.house.make(1), 2);
        Checks.due("it has no values", c.got(2, 0), "?");
        Checks.due("a new one is another one", c.value("#1=#2"), "t");
    }

    private static void committed() {
        c.house.begin();
        c.set(0, 0, "7");
        Checks.due("commit", c.house.commit(), 1);
        Checks.due("commit again", c.house.commit(), ExpressHouse.NONE);
        Checks.due("abort", c.house.abort(), ExpressHouse.NONE);
        Checks.due("an attribute", c.got(0, 0), "7");
        Checks.due("begin", c.house.begin(), 1);
        c.read("#1=a(3,$);");
        Checks.due("abort", c.house.abort(), 1);
        Checks.due("made", c.house.count(7), 3);
    }
}
