/** What the tests share: a house, texts for its tape, its answers in short, and the count of wrong ones. */
final class Checks {
    private static int done = 0;
    private static int wrong = 0;

    /** A fresh one may be put in at any time. */
    ExpressHouse house = new ExpressHouse();

    static void due(String what, long got, long want) {
        done++;
        if (got != want) {
            wrong++;
            System.out.println(what + " answered " + got + ", due is " + want);
        }
    }

    static void due(String what, String got, String want) {
        done++;
        if (!got.equals(want)) {
            wrong++;
            System.out.println(what + " answered " + got + ", due is " + want);
        }
    }

    /** Ends the test: tells how many answers were looked at, and fails if one was wrong. */
    static void end(String test) {
        System.out.println(test + ": " + done + " answers, " + wrong + " wrong");
        if (wrong > 0) {
            System.exit(1);
        }
    }

    /** Lets the tape contain just this text (its signs are bytes). */
    void tape(String text) {
        house.cut(house.count(9));
        int missing = (20 - text.length() % 20) % 20;
        String padded = text + " ".repeat(missing);
        for (int i = 0; i < padded.length(); i += 20) {
            int[] w = new int[5];
            for (int j = 0; j < 20; j++) {
                w[j / 4] = w[j / 4] << 8 | padded.charAt(i + j) & 255;
            }
            house.feed(w[0], w[1], w[2], w[3], w[4]);
        }
        house.cut(missing);
    }

    int schema(String text) {
        tape(text);
        return house.schema();
    }

    /** Reads "schema s;" with these parts and its end; this has to be without fault. */
    void given(String parts) {
        house = new ExpressHouse();
        int answer = schema("schema s;" + parts + "end;");
        if (answer < 0) {
            due("schema with " + parts + " (fault " + house.fault() + ")", answer, 0);
        }
    }

    int work(String exp) {
        tape(exp);
        return house.work();
    }

    int set(int x, int a, String exp) {
        tape(exp);
        return house.set(x, a);
    }

    int read(String file) {
        tape(file);
        return house.read();
    }

    /** The value of an expression in short, or what work() answered. */
    String value(String exp) {
        int kind = work(exp);
        return kind < 0 ? "" + kind : hand();
    }

    /** The value of an attribute in short, or what get() answered. */
    String got(int x, int a) {
        int kind = house.get(x, a);
        return kind < 0 ? "" + kind : hand();
    }

    /** The hand in short: ?, 5, 1.5, t, i0 (an item), #0; of an aggregate its sort, low index, lane, places. */
    String hand() {
        if (house.hand(0) != 6) {
            return scalar(house.hand(0), house.bits(ExpressHouse.NONE));
        }
        StringBuilder text = new StringBuilder();
        text.append("ALBS".charAt(house.hand(1))).append(house.hand(2)).append(':').append(house.hand(4)).append('[');
        for (int i = 0; i < house.hand(3); i++) {
            text.append(i > 0 ? "," : "").append(scalar(house.place(i), house.bits(i)));
        }
        return text.append(']').toString();
    }

    private static String scalar(int kind, long bits) {
        switch (kind) {
            case 0: return "?";
            case 1: return "" + bits;
            case 2: return "" + Double.longBitsToDouble(bits);
            case 3: return "fut".substring((int) bits, (int) bits + 1);
            case 4: return "i" + bits;
            case 5: return "#" + bits;
            default: return "kind " + kind;
        }
    }

    /** The answer and the fault of a text as one: "number@place", or "fine". */
    String faultOf(int answer) {
        return answer <= -10 ? house.fault() + "@" + (-10 - answer) : house.fault() == 0 ? "fine" : "" + answer;
    }

    /** The fault of a schema in a new house. */
    String schemaFault(String text) {
        house = new ExpressHouse();
        return faultOf(schema(text));
    }

    /** The fault of "schema s;" with these parts behind it in a new house, its place counted from the parts on. */
    String partsFault(String parts) {
        String fault = schemaFault("schema s;" + parts);
        int at = fault.indexOf('@');
        return at < 0 ? fault : fault.substring(0, at + 1) + (Integer.parseInt(fault.substring(at + 1)) - 9);
    }

    /** A part several times, with the number of each time (from 0) for "@". */
    static String repeated(String part, int times) {
        StringBuilder text = new StringBuilder();
        for (int i = 0; i < times; i++) {
            text.append(part.replace("@", "" + i));
        }
        return text.toString();
    }

    String workFault(String exp) {
        return faultOf(work(exp));
    }

    String readFault(String file) {
        return faultOf(read(file));
    }

    String output() {
        StringBuilder text = new StringBuilder();
        for (int i = 0; i < house.count(10); i++) {
            text.append((char) house.out(i));
        }
        return text.toString();
    }

    String name(int sort, int i) {
        StringBuilder text = new StringBuilder();
        for (int k = 0; house.name(sort, i, k) >= 0; k++) {
            text.append((char) house.name(sort, i, k));
        }
        return text.toString();
    }
}
