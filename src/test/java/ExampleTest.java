/** The session that README.md shows: a schema, instances, an expression, rules, and a file there and back. */
public final class ExampleTest {
    private static final String SHOP = "schema shop;\n"
        + "type size = enum(small, large); end;\n"
        + "entity part; number: integer; weight: real; unique number; where weight > 0.0; end;\n"
        + "entity gear under part; teeth: optional integer; end;\n"
        + "entity box; form: size; parts: set [1:3] of part; derive total: real = sum(parts); end;\n"
        + "function sum(p: set [0:?] of part): real; var s: real;\n"
        + "  s = 0;\n"
        + "  repeat i = 1 to sizeof(p); s = s + p[i].weight; end;\n"
        + "  return s; end;\n"
        + "rule few; where sizeof(box) < 10; end;\n"
        + "end;";
    private static final int PART = 1, GEAR = 2, BOX = 4;
    private static final int NUMBER = 0, WEIGHT = 1, TEETH = 2, FORM = 3, PARTS = 4, TOTAL = 5;
    private static final ExpressHouse house = new ExpressHouse();

    public static void main(String[] args) {
        reading();
        instances();
        rules();
        files();
        Checks.end("ExampleTest");
    }

    /** Puts a text on the tape, twenty bytes a call. */
    private static void tape(String text) {
        int over = (20 - text.length() % 20) % 20;
        String whole = text + " ".repeat(over);
        for (int at = 0; at < whole.length(); at += 20) {
            int[] words = new int[5];
            for (int k = 0; k < 20; k++) {
                words[k / 4] = words[k / 4] << 8 | whole.charAt(at + k);
            }
            house.feed(words[0], words[1], words[2], words[3], words[4]);
        }
        house.cut(over);
    }

    private static void reading() {
        tape(SHOP);
        Checks.due("entities", house.schema(), 3);
        Checks.due("a gear is a part", house.allowed(GEAR), 2);
        Checks.due("a gear", house.allowed(PART | GEAR), 0);
        Checks.due("a box with teeth", house.allowed(PART | GEAR | BOX), 3);
    }

    private static void set(int x, int a, String exp, int kind) {
        tape(exp);
        Checks.due("#" + x + " attribute " + a + " = " + exp, house.set(x, a), kind);
    }

    private static void instances() {
        Checks.due("#0", house.make(PART), 0);
        Checks.due("#1", house.make(PART | GEAR), 1);
        Checks.due("#2", house.make(BOX), 2);
        set(0, NUMBER, "7", 1);
        set(0, WEIGHT, "0.5", 2);
        set(1, NUMBER, "7", 1);
        set(1, WEIGHT, "2", 2);
        set(1, TEETH, "24.5", ExpressHouse.NONE);
        set(2, FORM, "large", 4);
        set(2, PARTS, "[#0, #1]", 6);
        Checks.due("total", house.get(2, TOTAL), 2);
        Checks.due("total", house.bits(ExpressHouse.NONE), Double.doubleToLongBits(2.5));
        tape("query(p <* part | p.weight > 1.0)");
        Checks.due("the heavy ones", house.work(), 6);
        Checks.due("how many", house.hand(3), 1);
        Checks.due("which", house.bits(0), 1);
    }

    private static void rules() {
        Checks.due("the second rule of part", house.rule(1, 0), 1);
        Checks.due("two parts with one number", house.judge(1), 0);
        Checks.due("the later one", house.judged(0, 0), 1);
        set(1, NUMBER, "8", 1);
        for (int r = 0; r < house.count(5); r++) {
            Checks.due("rule " + r, house.judge(r), 1);
        }
    }

    private static void files() {
        int size = house.write();
        StringBuilder file = new StringBuilder();
        for (int i = 0; i < size; i++) {
            file.append((char) house.out(i));
        }
        Checks.due("file", file.toString(), "#0=part(7,0.5);#1=gear(8,2.0,$);#2=box(.large.,(#0,#1));");
        tape(file.toString());
        Checks.due("instances of the file", house.read(), 3);
        Checks.due("the box", house.told(2), 5);
        tape("#3 = part(1, .large.);");
        Checks.due("a size is no weight", house.read(), -10 - 13);
        Checks.due("the sense of it is wrong", house.fault(), 2);
    }
}
