/** Promises 10 and 11: which combinations are allowed, and how many there are. */
public final class CombinationsTest {
    private static final Checks c = new Checks();

    public static void main(String[] args) {
        ranges();
        reasons();
        supers();
        manyEntities();
        firstReason();
        rowOfTwelve();
        abstractOnes();
        supersOfSeveral();
        Checks.end("CombinationsTest");
    }

    private static void allowed(int row, int want) {
        Checks.due("allowed(" + Integer.toBinaryString(row) + ")", c.house.allowed(row), want);
    }

    private static void ranges() {
        Checks.due("allowed(0) without entities", c.house.allowed(0), 1);
        Checks.due("allowed(1) without entities", c.house.allowed(1), ExpressHouse.BAD);
        Checks.due("combinations(0) without entities", c.house.combinations(0), ExpressHouse.BAD);
        c.given("entity a;end;entity b;end;");
        allowed(4, ExpressHouse.BAD);
        allowed(5, ExpressHouse.BAD);
        allowed(-1, ExpressHouse.BAD);
        allowed(Integer.MIN_VALUE, ExpressHouse.BAD);
        allowed(1 << 30, ExpressHouse.BAD);
        Checks.due("combinations(2)", c.house.combinations(2), ExpressHouse.BAD);
        Checks.due("combinations(-1)", c.house.combinations(-1), ExpressHouse.BAD);
    }

    private static void reasons() {
        c.given("entity a;end;entity b under a;end;entity d;end;entity e abstract;end;entity f under e,a;end;");
        allowed(0, 1);
        allowed(1, 0);
        allowed(2, 2);
        allowed(3, 0);
        allowed(5, 3);
        allowed(8, 4);
        allowed(24, 2);
        allowed(25, 0);
        allowed(27, 0);
        allowed(9, 3);
        allowed(12, 3);
        allowed(6, 2);
        Checks.due("combinations(0)", c.house.combinations(0), 4);
        Checks.due("combinations(1)", c.house.combinations(1), 2);
        Checks.due("combinations(2)", c.house.combinations(2), 1);
        Checks.due("combinations(3)", c.house.combinations(3), 2);
        Checks.due("combinations(4)", c.house.combinations(4), 2);
        c.given("entity a abstract;end;entity b abstract under a;end;entity d under b;end;");
        allowed(1, 4);
        allowed(3, 4);
        allowed(7, 0);
    }

    /** Entity r with s, t, u and v (bits 1 to 4) under it, and the sets of these that are allowed with r. */
    private static void superIs(String over, int... sets) {
        c.given("entity r over " + over + ";end;entity s under r;end;entity t under r;end;entity u under r;end;"
            + "entity v under r;end;");
        for (int set = 0; set < 16; set++) {
            boolean named = false;
            for (int one : sets) {
                named |= one == set;
            }
            Checks.due("over " + over + ": " + set, c.house.allowed(1 | set << 1), named ? 0 : 5);
        }
        Checks.due("over " + over, c.house.combinations(0), sets.length);
    }

    private static void supers() {
        superIs("s", 0, 1, 2, 4, 6, 8, 10, 12, 14, 3, 5, 7, 9, 11, 13, 15);
        superIs("oneof(s,t,u,v)", 0, 1, 2, 4, 8);
        superIs("s and t and u and v", 0, 15);
        superIs("s andor t andor u andor v", 0, 1, 2, 3, 4, 5, 6, 7, 8, 9, 10, 11, 12, 13, 14, 15);
        superIs("s and t andor u and v", 0, 3, 12, 15);
        superIs("s and (t andor u) and v", 0, 11, 13, 15);
        superIs("oneof(s and t,u andor v)", 0, 3, 4, 8, 12);
        superIs("oneof(s,t) and oneof(u,v)", 0, 5, 6, 9, 10);
        superIs("oneof(s,t) andor oneof(u,v)", 0, 1, 2, 4, 8, 5, 6, 9, 10);
        superIs("oneof(s,oneof(t,u) and v)", 0, 1, 10, 12);
        superIs("((oneof((s and t and u and v))))", 0, 15);
        superIs("oneof(s,t)", 0, 1, 2, 4, 8, 12, 5, 9, 13, 6, 10, 14);
    }

    private static void manyEntities() {
        StringBuilder parts = new StringBuilder("entity r;end;");
        for (int i = 1; i < 12; i++) {
            parts.append("entity s").append(i).append(" under r;end;");
        }
        c.given(parts.toString());
        Checks.due("combinations(0) of twelve", c.house.combinations(0), 2048);
        Checks.due("combinations(11) of twelve", c.house.combinations(11), 1024);
        allowed(4095, 0);
        allowed(4094, 2);
        allowed(4096, ExpressHouse.BAD);
    }

    /** "It is allowed unless one of these applies, of which the first is told" */
    private static void firstReason() {
        c.given("entity a abstract over oneof(b,d);end;entity b under a;end;entity d under a;end;entity e;end;entity f under e;"
            + "end;");
        allowed(0, 1);
        allowed(2 | 8, 2);
        allowed(1 | 16, 2);
        allowed(1 | 2 | 4 | 16, 2);
        allowed(1 | 8, 3);
        allowed(1 | 2 | 4 | 8, 3);
        allowed(1, 4);
        allowed(1 | 2 | 4, 5);
        allowed(1 | 2, 0);
        allowed(8, 0);
        allowed(8 | 16, 0);
        allowed(16, 2);
        c.given("entity a over oneof(b,d);end;entity b abstract under a;end;entity d under a;end;");
        allowed(3, 4);
        allowed(7, 4);
        allowed(5, 0);
        allowed(1, 0);
        // an entity may stand before the one that it names
        c.given("entity b under a;end;entity a;end;");
        allowed(1, 2);
        allowed(2, 0);
        allowed(3, 0);
        Checks.due("combinations(0)", c.house.combinations(0), 1);
        Checks.due("combinations(1)", c.house.combinations(1), 2);
    }

    /** Twelve entities, each under the next one, in both orders: the only sets are those that reach up to the last one. */
    private static void rowOfTwelve() {
        StringBuilder up = new StringBuilder();
        StringBuilder down = new StringBuilder("entity d11;end;");
        for (int e = 0; e < 11; e++) {
            up.append("entity u").append(e).append(" under u").append(e + 1).append(";end;");
            down.append("entity d").append(10 - e).append(" under d").append(11 - e).append(";end;");
        }
        c.given(up + "entity u11;end;");
        for (int set = 0; set < 4096; set++) {
            Checks.due("up " + set, c.house.allowed(set), set == 0 ? 1 : reasonOfRow(set, true));
        }
        c.given(down.toString());
        for (int set = 0; set < 4096; set++) {
            Checks.due("down " + set, c.house.allowed(set), set == 0 ? 1 : reasonOfRow(set, false));
        }
        for (int e = 0; e < 12; e++) {
            Checks.due("combinations(" + e + ")", c.house.combinations(e), 12 - e);
        }
        // a row of entities that are joined at both sides
        c.given("entity a;end;entity b under a,d;end;entity d;end;entity e under d,f;end;entity f;end;entity g under f,h;end;"
            + "entity h;end;");
        allowed(127, 0);
        allowed(127 & ~8, 3);
        allowed(127 & ~2, 3);
        allowed(127 & ~1, 2);
        allowed(5, 3);
        allowed(7, 0);
    }

    /** In a row of entities, one of a set misses the one that it names, unless the set reaches up to the last one. */
    private static int reasonOfRow(int set, boolean up) {
        for (int e = 0; e < 12; e++) {
            int above = up ? e + 1 : e - 1;
            if ((set >> e & 1) == 1 && above >= 0 && above < 12 && (set >> above & 1) == 0) {
                return 2;
            }
        }
        return 0;
    }

    /** "it contains an abstract entity, but none that names this one behind its "under"" */
    private static void abstractOnes() {
        c.given("entity a under b;end;entity b abstract;end;entity d abstract under b;end;entity e under d;end;"
            + "entity f under b,d;end;");
        allowed(2, 4);
        allowed(3, 0);
        allowed(6, 4);
        allowed(7, 4);
        allowed(14, 0);
        allowed(22, 0);
        allowed(18, 2);
        c.given("entity a abstract under b;end;entity b;end;");
        allowed(3, 4);
        allowed(2, 0);
        allowed(1, 2);
    }

    /** Several entities with "over", and what stands behind them in the text. */
    private static void supersOfSeveral() {
        c.given("entity a over oneof(d,e);derive x:integer=1;end;entity b over d and e;y:integer;end;entity d under a,b;end;"
            + "entity e under a,b;end;entity f over g;where true;end;entity g under f,d;end;");
        int ab = 3;
        allowed(ab, 3);
        allowed(ab | 4, 5);
        allowed(ab | 12, 5);
        allowed(1, 0);
        allowed(2, 0);
        allowed(16, 0);
        allowed(ab | 4 | 48, 5);
        c.given("entity a over oneof(d,e);derive x:integer=1;end;entity b over d andor e;y:integer;end;entity d under a,b;end;"
            + "entity e under a,b;end;entity f over g;where true;end;entity g under f,d;end;");
        allowed(ab | 4, 0);
        allowed(ab | 8, 0);
        allowed(ab | 12, 5);
        allowed(ab | 4 | 48, 0);
        allowed(ab | 4 | 16, 3);
        c.house.make(ab | 4);
        Checks.due("the code behind an over", c.value("#0.x"), "1");
        c.given("entity a over oneof(d,e);derive x:integer=5;end;entity b;end;entity d under a;end;entity e under a;end;");
        allowed(5, 0);
        allowed(9, 0);
        allowed(13, 5);
        // those that are named are at least one: others do not matter
        c.given("entity a over oneof(b,d);end;entity b under a;end;entity d under a;end;entity e under a;end;");
        allowed(1 | 8, 0);
        allowed(1 | 2 | 8, 0);
        allowed(1 | 2 | 4 | 8, 5);
        c.given("entity a over b and d;end;entity b under a;end;entity d under a;end;entity e under a;end;");
        allowed(1 | 8, 0);
        allowed(1 | 2 | 8, 5);
        allowed(1 | 2 | 4 | 8, 0);
    }
}
