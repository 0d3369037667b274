/** Promises 10 and 11: which combinations are allowed, and how many there are. */
public final class CombinationsTest {
    private static final Checks c = new Checks();

    public static void main(String[] args) {
        ranges();
        reasons();
        supers();
        manyEntities();
        Checks.end("CombinationsTest");
    }

    private static void allowed(int row, int want) {
        Checks.due("allowed(" + Integer.toBinaryString(row) + ")", c.house.allowed(row), want);
    }

    private static void ranges() {
        Checks.due("allowed(0) without entities", c.house.allowed(0), 1);
        Checks.due("allowed(1) without entities", c.house.allowed(1), ExpressHouse.BAD);
        Checks.due("combinations(0) without entities", c.house.combinations(0), ExpressHouse.BAD);
        c.given("entity a;end;entity b;end;");
        allowed(4, ExpressHouse.BAD);
        allowed(5, ExpressHouse.BAD);
        allowed(-1, ExpressHouse.BAD);
        allowed(Integer.MIN_VALUE, ExpressHouse.BAD);
        allowed(1 << 30, ExpressHouse.BAD);
        Checks.due("combinations(2)", c.house.combinations(2), ExpressHouse.BAD);
        Checks.due("combinations(-1)", c.house.combinations(-1), ExpressHouse.BAD);
    }

    private static void reasons() {
        c.given("entity a;end;entity b under a;end;entity d;end;entity e abstract;end;entity f under e,a;end;");
        allowed(0, 1);
        allowed(1, 0);
        allowed(2, 2);
        allowed(3, 0);
        allowed(5, 3);
        allowed(8, 4);
        allowed(24, 2);
        allowed(25, 0);
        allowed(27, 0);
        allowed(9, 3);
        allowed(12, 3);
        allowed(6, 2);
        Checks.due("combinations(0)", c.house.combinations(0), 4);
        Checks.due("combinations(1)", c.house.combinations(1), 2);
        Checks.due("combinations(2)", c.house.combinations(2), 1);
        Checks.due("combinations(3)", c.house.combinations(3), 2);
        Checks.due("combinations(4)", c.house.combinations(4), 2);
        c.given("entity a abstract;end;entity b abstract under a;end;entity d under b;end;");
        allowed(1, 4);
        allowed(3, 4);
        allowed(7, 0);
    }

    /** Entity r with s, t, u and v (bits 1 to 4) under it, and the sets of these that are allowed with r. */
    private static void superIs(String over, int... sets) {
        c.given("entity r over " + over + ";end;entity s under r;end;entity t under r;end;entity u under r;end;"
            + "entity v under r;end;");
        for (int set = 0; set < 16; set++) {
            boolean named = false;
            for (int one : sets) {
                named |= one == set;
            }
            Checks.due("over " + over + ": " + set, c.house.allowed(1 | set << 1), named ? 0 : 5);
        }
        Checks.due("over " + over, c.house.combinations(0), sets.length);
    }

    private static void supers() {
        superIs("s", 0, 1, 2, 4, 6, 8, 10, 12, 14, 3, 5, 7, 9, 11, 13, 15);
        superIs("oneof(s,t,u,v)", 0, 1, 2, 4, 8);
        superIs("s and t and u and v", 0, 15);
        superIs("s andor t andor u andor v", 0, 1, 2, 3, 4, 5, 6, 7, 8, 9, 10, 11, 12, 13, 14, 15);
        superIs("s and t andor u and v", 0, 3, 12, 15);
        superIs("s and (t andor u) and v", 0, 11, 13, 15);
        superIs("oneof(s and t,u andor v)", 0, 3, 4, 8, 12);
        superIs("oneof(s,t) and oneof(u,v)", 0, 5, 6, 9, 10);
        superIs("oneof(s,t) andor oneof(u,v)", 0, 1, 2, 4, 8, 5, 6, 9, 10);
        superIs("oneof(s,oneof(t,u) and v)", 0, 1, 10, 12);
        superIs("((oneof((s and t and u and v))))", 0, 15);
        superIs("oneof(s,t)", 0, 1, 2, 4, 8, 12, 5, 9, 13, 6, 10, 14);
    }

    private static void manyEntities() {
        StringBuilder parts = new StringBuilder("entity r;end;");
        for (int i = 1; i < 12; i++) {
            parts.append("entity s").append(i).append(" under r;end;");
        }
        c.given(parts.toString());
        Checks.due("combinations(0) of twelve", c.house.combinations(0), 2048);
        Checks.due("combinations(11) of twelve", c.house.combinations(11), 1024);
        allowed(4095, 0);
        allowed(4094, 2);
        allowed(4096, ExpressHouse.BAD);
    }
}
