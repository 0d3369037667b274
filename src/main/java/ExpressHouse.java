import java.util.Arrays;

/** A workbench for data schemas and exchange files in the manner of EXPRESS and STEP (ISO 10303). */
public final class ExpressHouse {
    public static final int BAD = -1, FULL = -2, NONE = -3, SPENT = -4;

    private static final int MISSING = -21, NO_INDEX = -22, OTHER_LANE = -23, LANES_DIFFER = -24;
    private static final int TAPE_MOST = 3000, KEPT = 4;
    /** Far above the turns that any loop over a text or a run can need. */
    private static final int MANY = 1000000;

    private final byte[] tape = new byte[TAPE_MOST];
    private int taped;
    private final Tokens tokens = new Tokens();
    private final Population people = new Population(new Schema());
    private final Expressions expressions = new Expressions(tokens, people.schema);
    private final SchemaReader schemas = new SchemaReader(tokens, expressions);
    private final Machine machine = new Machine(people);
    private final Judge referee = new Judge(people, machine);
    private final FileReader source = new FileReader(people, tokens);
    private final FileWriter output = new FileWriter(people);
    private Value hand = new Value(Value.NOTHING, 0);
    private final Value[] slots = new Value[KEPT];
    private final Value[] rows = new Value[KEPT];
    private int latestFault;
    private int itemError;

    public ExpressHouse() {
        emptyHands();
    }

    // ---- texts

    public int feed(int a, int b, int c, int d, int e) {
        if (taped + 20 > TAPE_MOST) {
            return FULL;
        }
        append(a);
        append(b);
        append(c);
        append(d);
        append(e);
        return taped;
    }

    private void append(int word) {
        for (int shift = 24; shift >= 0 && taped < tape.length; shift -= 8) {
            tape[taped] = (byte) (word >> shift);
            taped++;
        }
    }

    public int cut(int n) {
        if (n < 0 || n > taped) {
            return BAD;
        }
        taped -= n;
        return taped;
    }

    public int schema() {
        tokens.load(tape, taped);
        taped = 0;
        schemas.start();
        for (int pass = SchemaReader.DECLARE; pass <= SchemaReader.BIND; pass++) {
            schemas.readThrough(pass);
        }
        int outcome = tokens.outcome();
        latestFault = tokens.fault;
        if (outcome < 0) {
            return outcome;
        }
        people.schema = schemas.exchange(people.schema);
        people.clear();
        referee.clear();
        source.forget();
        emptyHands();
        return people.schema.counts[Schema.ENTITIES];
    }

    private void emptyHands() {
        hand = new Value(Value.NOTHING, 0);
        for (int k = 0; k < KEPT; k++) {
            slots[k] = hand;
            rows[k] = hand;
        }
    }

    public int fault() {
        return latestFault;
    }

    public int count(int what) {
        Schema s = people.schema;
        switch (what) {
            case 0: return s.counts[Schema.TYPES];
            case 1: return s.counts[Schema.ITEMS];
            case 2: return s.counts[Schema.ENTITIES];
            case 3: return s.counts[Schema.ATTRIBUTES];
            case 4: return s.counts[Schema.FUNCTIONS];
            case 5: return s.ruleCount();
            case 6: return s.nodes;
            case 7: return people.made;
            case 8: return people.existing();
            case 9: return taped;
            case 10: return output.size;
            case 11: return machine.made;
            case 12: return machine.madeInAll;
            default: return BAD;
        }
    }

    public int name(int sort, int i, int k) {
        Schema s = people.schema;
        if (sort < 0 || sort > Schema.FUNCTIONS || i < 0 || i >= s.counts[sort]) {
            return BAD;
        }
        long code = s.names[sort][i];
        if (k < 0 || k >= Tokens.lengthOf(code)) {
            return BAD;
        }
        return Tokens.byteOf(code, k);
    }

    public int entity(int e, int what) {
        Schema s = people.schema;
        if (e < 0 || e >= s.counts[Schema.ENTITIES] || what < 0 || what > Schema.WHERES) {
            return BAD;
        }
        return s.entities[e][what];
    }

    public int attribute(int a, int what) {
        Schema s = people.schema;
        if (a < 0 || a >= s.counts[Schema.ATTRIBUTES] || what < 0 || what > 6) {
            return BAD;
        }
        if (what <= Schema.OPTIONAL) {
            return s.attributes[a][what];
        }
        return s.kindCell(s.attributes[a][Schema.KIND], what - 3);
    }

    // ---- combinations

    public int allowed(int row) {
        return people.schema.knows(row) ? people.schema.reason(row) : BAD;
    }

    public int combinations(int e) {
        if (e < 0 || e >= people.schema.counts[Schema.ENTITIES]) {
            return BAD;
        }
        return people.schema.combinationsWith(e);
    }

    // ---- population

    public int make(int row) {
        if (!people.schema.knows(row)) {
            return BAD;
        }
        int reason = people.schema.reason(row);
        if (reason != 0) {
            return -10 - reason;
        }
        return people.made >= Population.MOST ? FULL : people.add(row);
    }

    public int drop(int x) {
        if (!people.exists(x)) {
            return BAD;
        }
        people.remove(x);
        return 1;
    }

    public int row(int x) {
        return x < 0 || x >= people.made ? BAD : people.rowOf(x);
    }

    public int set(int x, int a) {
        if (!people.has(x, a) || people.schema.attributes[a][Schema.SORT] != Schema.EXPLICIT_SORT) {
            return BAD;
        }
        int start = readExpression();
        if (start < 0) {
            return start;
        }
        people.prepare();
        Value value = machine.run(start, people.nothing);
        if (machine.spent) {
            return SPENT;
        }
        int kind = people.schema.attributes[a][Schema.KIND];
        value = people.converted(value, kind);
        if (!people.fits(value, kind)) {
            return NONE;
        }
        people.hold(x, a, value);
        return value.kind;
    }

    /** Reads the tape as an expression; returns where its code begins, or its fault. */
    private int readExpression() {
        tokens.load(tape, taped);
        taped = 0;
        int start = expressions.readAlone(people.schema);
        int outcome = tokens.outcome();
        latestFault = tokens.fault;
        return outcome < 0 ? outcome : start;
    }

    public int get(int x, int a) {
        if (!people.has(x, a)) {
            return BAD;
        }
        people.prepare();
        return runToHand(people.schema.codeOfAccess(a), new Value(Value.INSTANCE, x));
    }

    private int runToHand(int start, Value self) {
        Value value = machine.run(start, self);
        if (machine.spent) {
            return SPENT;
        }
        hand = value;
        return hand.kind;
    }

    public int work() {
        int start = readExpression();
        if (start < 0) {
            return start;
        }
        people.prepare();
        return runToHand(start, people.nothing);
    }

    // ---- the hand

    public int hand(int what) {
        if (what < 0 || what > 4) {
            return BAD;
        }
        if (what == 0) {
            return hand.kind;
        }
        if (hand.kind != Value.AGGREGATE) {
            return NONE;
        }
        switch (what) {
            case 1: return hand.sort;
            case 2: return hand.low;
            case 3: return hand.cells.length;
            default: return hand.lane;
        }
    }

    public long bits(int i) {
        if (i == NONE) {
            return hand.bits;
        }
        return hand.bitsAt(i);
    }

    public int place(int i) {
        if (i < 0 || i >= hand.cells.length) {
            return BAD;
        }
        return hand.kindAt(i);
    }

    public int keep(int k) {
        if (k < 0 || k >= KEPT) {
            return BAD;
        }
        slots[k] = hand;
        return hand.kind;
    }

    public int like(int k) {
        if (k < 0 || k >= KEPT) {
            return BAD;
        }
        people.prepare();
        return people.alike(hand, slots[k]) ? 1 : 0;
    }

    // ---- plain rows

    public int take(int k) {
        if (k < 0 || k >= KEPT) {
            return BAD;
        }
        if (hand.kind == Value.NOTHING) {
            return MISSING;
        }
        if (hand.kind != Value.AGGREGATE || hand.lane == 0) {
            return OTHER_LANE;
        }
        if (hand.holes != 0) {
            return MISSING;
        }
        rows[k] = new Value(Value.LIST, 1, hand.lane, 0, hand.cells);
        return hand.cells.length;
    }

    public long item(int k, int lane, int i) {
        itemError = elementError(k, lane, i);
        return itemError == 0 ? rows[k].bitsAt(i) : 0;
    }

    private int elementError(int k, int lane, int i) {
        if (k < 0 || k >= KEPT || lane < Value.INTEGER || lane > Value.INSTANCE) {
            return BAD;
        }
        Value plain = rows[k];
        if (plain.kind == Value.NOTHING) {
            return MISSING;
        }
        if (plain.lane != lane) {
            return OTHER_LANE;
        }
        return i < 0 || i >= plain.cells.length ? NO_INDEX : 0;
    }

    public int failed() {
        return itemError;
    }

    public int put(int k, int lane, int i, long v) {
        if (!isElement(lane, v)) {
            return BAD;
        }
        int error = elementError(k, lane, i);
        if (error != 0) {
            return error;
        }
        long[] cells = rows[k].cells.clone();
        if (i >= 0 && i < cells.length) {
            cells[i] = elementOf(lane, v);
        }
        rows[k] = new Value(Value.LIST, 1, lane, 0, cells);
        return 1;
    }

    private boolean isElement(int lane, long v) {
        switch (lane) {
            case Value.LOGICAL: return v >= 0 && v <= 2;
            case Value.ITEM: return v >= 0 && v < people.schema.counts[Schema.ITEMS];
            case Value.INSTANCE: return v >= 0 && v < Population.MOST && people.exists((int) v);
            default: return true;
        }
    }

    private static long elementOf(int lane, long v) {
        if (lane == Value.INTEGER) {
            return (int) v;
        }
        return lane == Value.REAL ? Reals.clean(v) : v;
    }

    public int pass(int k, int i, int m, int j, int n) {
        if (k < 0 || k >= KEPT || m < 0 || m >= KEPT) {
            return BAD;
        }
        Value from = rows[k];
        Value to = rows[m];
        if (from.kind == Value.NOTHING || to.kind == Value.NOTHING) {
            return MISSING;
        }
        if (from.lane != to.lane) {
            return LANES_DIFFER;
        }
        if (i < 0 || j < 0 || n < 0 || (long) i + n > from.cells.length || (long) j + n > to.cells.length) {
            return NO_INDEX;
        }
        long[] cells = to.cells.clone();
        System.arraycopy(from.cells, i, cells, j, n);
        rows[m] = new Value(Value.LIST, 1, to.lane, 0, cells);
        return 1;
    }

    public int back(int k) {
        if (k < 0 || k >= KEPT) {
            return BAD;
        }
        if (rows[k].kind == Value.NOTHING) {
            return MISSING;
        }
        hand = rows[k];
        return hand.cells.length;
    }

    // ---- rules

    public int rule(int r, int what) {
        Schema s = people.schema;
        if (r < 0 || r >= s.ruleCount() || what < 0 || what > 1) {
            return BAD;
        }
        return what == 0 ? s.ruleSort(r) : s.ruleOwner(r);
    }

    public int judge(int r) {
        Schema s = people.schema;
        if (r < 0 || r >= s.ruleCount()) {
            return BAD;
        }
        people.prepare();
        int owner = s.ruleOwner(r);
        switch (s.ruleSort(r)) {
            case Schema.BOUNDS_RULE: return referee.judgeBounds(owner);
            case Schema.UNIQUE_RULE: return referee.judgeUnique(owner);
            case Schema.ENTITY_RULE: return referee.judgeEntity(owner);
            case Schema.TYPE_RULE: return referee.judgeType(owner);
            default: return referee.judgeText(owner);
        }
    }

    public int judged(int i, int what) {
        if (i < 0 || i >= referee.noted || what < 0 || what > 1) {
            return BAD;
        }
        return what == 0 ? referee.instances[i] : referee.verdicts[i];
    }

    // ---- files

    public int write() {
        output.start();
        for (int x = 0; x < people.made; x++) {
            if (people.exists(x)) {
                output.instance(x, people.rowOf(x));
            }
        }
        return output.finish();
    }

    public int out(int i) {
        return i < 0 || i >= output.size ? BAD : output.bytes[i] & 255;
    }

    public int read() {
        source.start(tape, taped);
        for (int reading = 1; reading <= 2 && source.fault == 0; reading++) {
            source.startReading(reading == 2);
            for (int n = 0; n < taped && source.goesOn(); n++) {
                source.entryPart();
            }
        }
        taped = 0;
        latestFault = source.fault;
        return source.finish();
    }

    public int told(int n) {
        return source.instanceOf(n);
    }

    // ---- saved populations, steps

    public int begin() {
        return people.save() ? 1 : NONE;
    }

    public int commit() {
        return people.discard() ? 1 : NONE;
    }

    public int abort() {
        if (!people.restore()) {
            return NONE;
        }
        hand = new Value(Value.NOTHING, 0);
        for (int k = 0; k < KEPT; k++) {
            slots[k] = hand;
            if (rows[k].lane == Value.INSTANCE) {
                rows[k] = hand;
            }
        }
        return 1;
    }

    public int steps(int n) {
        if (n < 1 || n > 1000) {
            return BAD;
        }
        int before = machine.limit;
        machine.limit = n;
        return before;
    }

    /** The tokens of one text, where its reading stands, and the faults found so far. */
    private static final class Tokens {
        static final int END = 0, NAME = 1, WHOLE = 2, REAL = 3, WRONG = 4, STOPPED = 5;
        static final int SCHEMA = 10, TYPE = 11, ENUM = 12, SELECT = 13, ENTITY = 14, ABSTRACT = 15, UNDER = 16,
            OVER = 17, ONEOF = 18, ANDOR = 19, OPTIONAL = 20, DERIVE = 21, INVERSE = 22, FOR = 23, UNIQUE = 24,
            WHERE = 25, FUNCTION = 26, VAR = 27, IF = 28, THEN = 29, ELSE = 30, REPEAT = 31, TO = 32, BY = 33,
            WHILE = 34, ESCAPE = 35, SKIP = 36, RETURN = 37, RULE = 38, FINISH = 39, INTEGER = 40, REALS = 41,
            LOGICAL = 42, ARRAY = 43, LIST = 44, BAG = 45, SET = 46, OF = 47, AND = 48, OR = 49, XOR = 50,
            NOT = 51, IN = 52, DIV = 53, MOD = 54, QUERY = 55, TRUE = 56, FALSE = 57, UNKNOWN = 58, SELF = 59;
        static final int LESS = 60, LESS_EQUAL = 61, GREATER = 62, GREATER_EQUAL = 63, EQUAL = 64, UNEQUAL = 65,
            SAME = 66, FROM = 67, BAR = 68, PLUS = 69, MINUS = 70, TIMES = 71, SLASH = 72, OPEN = 73, CLOSE = 74,
            OPEN_SQUARE = 75, CLOSE_SQUARE = 76, COMMA = 77, SEMICOLON = 78, COLON = 79, POINT = 80,
            QUESTION = 81, HASH = 82;
        static final int NAME_MOST = 12, NODES_MOST = 600, OPENINGS_MOST = 8;
        /** The keywords, in the order of their numbers from SCHEMA on. */
        private static final String WORDS = "schema type enum select entity abstract under over oneof andor optional derive inverse for unique where function var if then else repeat to by while escape skip return rule end integer real logical array list bag set of and or xor not in div mod query true false unknown self";

        private final long[] words = codesOf(WORDS);
        private final int[] kinds = new int[TAPE_MOST + 2];
        private final int[] places = new int[TAPE_MOST + 2];
        private final long[] values = new long[TAPE_MOST + 2];
        private int total;
        private int at;
        /** The kind, the place and the value of the token to be read next. */
        int current;
        int place;
        long value;
        int fault;
        int faultPlace;
        private int softFault;
        private int softPlace;
        int nodes;
        private int openings;

        /** A name as a number: its bytes are digits of base 38, of which twelve fit into a long. */
        static long[] codesOf(String text) {
            int count = 1;
            for (int i = 0; i < text.length(); i++) {
                count += text.charAt(i) == ' ' ? 1 : 0;
            }
            long[] codes = new long[count];
            int w = 0;
            for (int i = 0; i < text.length(); i++) {
                if (text.charAt(i) == ' ') {
                    w++;
                } else if (w < count) {
                    codes[w] = codes[w] * 38 + digitOf(text.charAt(i));
                }
            }
            return codes;
        }

        /** The digit of a byte of names: 1 to 26 for letters, 0 for what stands in no name. */
        static int digitOf(int c) {
            if (c >= 'a' && c <= 'z') {
                return c - 'a' + 1;
            }
            if (c >= '0' && c <= '9') {
                return c - '0' + 27;
            }
            return c == '_' ? 37 : 0;
        }

        static boolean isLetter(int c) {
            return c >= 'a' && c <= 'z';
        }

        static boolean isDigit(int c) {
            return c >= '0' && c <= '9';
        }

        static boolean isBlank(int c) {
            return c == ' ' || c == '\n';
        }

        static int lengthOf(long code) {
            int length = 0;
            for (long rest = code; rest > 0; rest = rest / 38) {
                length++;
            }
            return length;
        }

        /** The byte k of a name that has one. */
        static int byteOf(long code, int k) {
            long rest = code;
            for (int left = lengthOf(code) - 1 - k; left > 0; left--) {
                rest = rest / 38;
            }
            int digit = (int) (rest % 38);
            if (digit <= 26) {
                return 'a' + digit - 1;
            }
            return digit == 37 ? '_' : '0' + digit - 27;
        }

        void load(byte[] text, int length) {
            total = 0;
            fault = 0;
            softFault = 0;
            int end = Math.min(length, text.length);
            int p = 0;
            boolean sound = true;
            for (int n = 0; n < end && p < end && sound; n++) {
                if (isBlank(text[p])) {
                    p++;
                } else {
                    int size = scan(text, end, p);
                    sound = size > 0;
                    p += size;
                }
            }
            add(sound ? END : WRONG, p, 0);
            rewind();
        }

        private void add(int kind, int place, long value) {
            if (total < kinds.length) {
                kinds[total] = kind;
                places[total] = place;
                values[total] = value;
                total++;
            }
        }

        /** Adds the token that begins at a byte; returns its length, 0 if none begins there. */
        private int scan(byte[] text, int length, int p) {
            if (isLetter(text[p])) {
                return scanName(text, length, p);
            }
            if (isDigit(text[p])) {
                return scanNumber(text, length, p);
            }
            int second = p + 1 < length ? text[p + 1] : 0;
            int third = p + 2 < length ? text[p + 2] : 0;
            int kind = longSign(text[p], second, third);
            if (kind != WRONG) {
                add(kind, p, 0);
                return kind == SAME ? 3 : 2;
            }
            kind = shortSign(text[p]);
            if (kind == WRONG) {
                return 0;
            }
            add(kind, p, 0);
            return 1;
        }

        private int scanName(byte[] text, int length, int p) {
            long code = 0;
            int size = 0;
            for (int i = p; i < length && size <= NAME_MOST && digitOf(text[i]) > 0; i++) {
                if (size < NAME_MOST) {
                    code = code * 38 + digitOf(text[i]);
                }
                size++;
            }
            if (size > NAME_MOST) {
                return 0;
            }
            add(kindOfWord(code), p, code);
            return size;
        }

        /** NAME, or which keyword the word is. */
        int kindOfWord(long code) {
            for (int w = 0; w < words.length; w++) {
                if (words[w] == code) {
                    return SCHEMA + w;
                }
            }
            return NAME;
        }

        private int scanNumber(byte[] text, int length, int p) {
            long value = 0;
            int front = 0;
            for (int i = p; i < length && isDigit(text[i]); i++) {
                value = front < 9 ? value * 10 + text[i] - '0' : value;
                front++;
            }
            int behind = 0;
            long scale = 1;
            boolean pointed = p + front < length && text[p + front] == '.';
            for (int i = p + front + 1; pointed && i < length && isDigit(text[i]); i++) {
                value = behind < 6 ? value * 10 + text[i] - '0' : value;
                scale = behind < 6 ? scale * 10 : scale;
                behind++;
            }
            if (front > (behind > 0 ? 6 : 9) || behind > 6) {
                return 0;
            }
            add(behind > 0 ? REAL : WHOLE, p, behind > 0 ? Reals.ofDecimal(value, scale) : value);
            return behind > 0 ? front + 1 + behind : front;
        }

        private static int longSign(int c, int second, int third) {
            switch (c) {
                case '<': return second == '=' ? LESS_EQUAL : second == '>' ? UNEQUAL : second == '*' ? FROM : WRONG;
                case '>': return second == '=' ? GREATER_EQUAL : WRONG;
                case ':': return second == '=' && third == ':' ? SAME : WRONG;
                default: return WRONG;
            }
        }

        private static int shortSign(int c) {
            switch (c) {
                case '<': return LESS;
                case '>': return GREATER;
                case '=': return EQUAL;
                case '|': return BAR;
                case '+': return PLUS;
                case '-': return MINUS;
                case '*': return TIMES;
                case '/': return SLASH;
                case '(': return OPEN;
                case ')': return CLOSE;
                case '[': return OPEN_SQUARE;
                case ']': return CLOSE_SQUARE;
                case ',': return COMMA;
                case ';': return SEMICOLON;
                case ':': return COLON;
                case '.': return POINT;
                case '?': return QUESTION;
                case '#': return HASH;
                default: return WRONG;
            }
        }

        /** Starts a reading of the same tokens anew; faults stay. */
        void rewind() {
            at = -1;
            nodes = 0;
            openings = 0;
            current = fault == 0 ? NAME : STOPPED;
            advance();
        }

        boolean is(int kind) {
            return current == kind;
        }

        void advance() {
            if (current != STOPPED && at + 1 < total && at + 1 < kinds.length) {
                at++;
                current = kinds[at];
                place = places[at];
                value = values[at];
            }
        }

        void expect(int kind) {
            if (current != kind) {
                fault = current == STOPPED ? fault : current == WRONG ? 1 : 2;
                faultPlace = current == STOPPED ? faultPlace : place;
                current = STOPPED;
            } else if (at + 1 < total && at + 1 < kinds.length) {
                at++;
                current = kinds[at];
                place = places[at];
                value = values[at];
            }
        }

        /** The current token is none, or is not allowed where it stands. */
        void refuse() {
            fail(current == WRONG ? 1 : 2);
        }

        /** Ends the reading with a fault at the current token. */
        void fail(int number) {
            if (current != STOPPED) {
                fault = number;
                faultPlace = place;
                current = STOPPED;
            }
        }

        /** Notes a fault that counts only if the reading comes to its end. */
        void soft(int number, int place) {
            boolean earlier = place < softPlace || place == softPlace && number < softFault;
            if (softFault == 0 || earlier) {
                softFault = number;
                softPlace = place;
            }
        }

        /** Settles which fault the text has; returns 0 for none, otherwise -10 minus its place. */
        int outcome() {
            if (fault == 0 && softFault != 0) {
                fault = softFault;
                faultPlace = softPlace;
            }
            return fault == 0 ? 0 : -10 - faultPlace;
        }

        /** Counts a node; returns whether there is room for it. */
        boolean node() {
            nodes++;
            return nodes <= NODES_MOST;
        }

        void open() {
            openings++;
            if (openings > OPENINGS_MOST) {
                fail(5);
            }
        }

        void close() {
            openings--;
        }
    }

    /** Reals, held as their bits, and their arithmetic, in which a NaN never reaches a double. */
    private static final class Reals {
        private static final long SIGN = 1L << 63, SIZE = ~SIGN, FRACTION = (1L << 52) - 1;
        static final long INFINITE = 2047L << 52, NOT_A_NUMBER = 4095L << 51;

        static boolean isNan(long b) {
            return (b & SIZE) > INFINITE;
        }

        private static boolean isInfinite(long b) {
            return (b & SIZE) == INFINITE;
        }

        private static boolean isZero(long b) {
            return (b & SIZE) == 0;
        }

        /** The bits with which a real is told: all NaNs have the same ones. */
        static long clean(long b) {
            return isNan(b) ? NOT_A_NUMBER : b;
        }

        /** The double with these bits, which are of no NaN. */
        static double toDouble(long b) {
            int exponent = (int) (b >>> 52) & 2047;
            double d = (double) (b & FRACTION);
            int power = -1074;
            if (exponent == 2047) {
                d = 1e308;
                d = d * 10;
                power = 0;
            } else if (exponent > 0) {
                d = (double) ((b & FRACTION) | 1L << 52);
                power = exponent - 1075;
            }
            double factor = power < 0 ? 0.5 : 2.0;
            for (int left = power < 0 ? -power : power; left > 0; left = left >> 1) {
                if ((left & 1) == 1) {
                    d = d * factor;
                }
                factor = factor * factor;
            }
            return b < 0 ? -d : d;
        }

        /** The bits of a double that is no NaN; a zero counts as the positive one. */
        static long toBits(double d) {
            double a = d < 0 ? -d : d;
            long sign = d < 0 ? SIGN : 0;
            if (a == 0) {
                return 0;
            }
            if (a > 1.7976931348623157e308) {
                return sign | INFINITE;
            }
            int exponent = 1075;
            for (int n = 0; n < 1100 && a >= 9007199254740992.0; n++) {
                a = a * 0.5;
                exponent++;
            }
            for (int n = 0; n < 1100 && a < 4503599627370496.0 && exponent > 1; n++) {
                a = a * 2;
                exponent--;
            }
            if (a < 4503599627370496.0) {
                return sign | (long) a;
            }
            return sign | (long) exponent << 52 | (long) a & FRACTION;
        }

        /** Whether a real is just this whole of 32 bits. */
        static boolean isWhole(long b, long whole) {
            int exponent = (int) (b >>> 52) & 2047;
            if (exponent < 1023 || exponent > 1054) {
                return whole == 0 && (b & SIZE) == 0;
            }
            long digits = (b & FRACTION) | 1L << 52;
            int behind = 1075 - exponent;
            long size = whole < 0 ? -whole : whole;
            return digits >> behind == size && size << behind == digits && whole < 0 == b < 0;
        }

        static long ofDecimal(long digits, long scale) {
            return scale > 0 ? toBits((double) digits / (double) scale) : 0;
        }

        /** The real that a number is as a double. */
        static long of(Value number) {
            return number.kind == Value.INTEGER ? toBits((double) number.bits) : number.bits;
        }

        static long negative(long b) {
            return isNan(b) ? NOT_A_NUMBER : b ^ SIGN;
        }

        static long plus(long a, long b) {
            if (isNan(a) || isNan(b) || isInfinite(a) && isInfinite(b) && a != b) {
                return NOT_A_NUMBER;
            }
            double sum = toDouble(a) + toDouble(b);
            return sum == 0 ? a & b & SIGN : toBits(sum);
        }

        static long times(long a, long b) {
            if (isNan(a) || isNan(b) || isInfinite(a) && isZero(b) || isZero(a) && isInfinite(b)) {
                return NOT_A_NUMBER;
            }
            return (a ^ b) & SIGN | toBits(toDouble(a & SIZE) * toDouble(b & SIZE));
        }

        static long over(long a, long b) {
            if (isNan(a) || isNan(b) || isInfinite(a) && isInfinite(b) || isZero(a) && isZero(b)) {
                return NOT_A_NUMBER;
            }
            long sign = (a ^ b) & SIGN;
            if (isZero(b)) {
                return sign | INFINITE;
            }
            return isInfinite(b) ? sign : sign | toBits(toDouble(a & SIZE) / toDouble(b & SIZE));
        }

        static long size(long b) {
            return isNan(b) ? NOT_A_NUMBER : b & SIZE;
        }

        /** The size of a with the sign of b. */
        static long signed(long a, long b) {
            return isNan(a) ? NOT_A_NUMBER : a & SIZE | (isNan(b) ? 0 : b & SIGN);
        }

        static long signOf(long b) {
            return isNan(b) || isZero(b) ? b : b & SIGN | 1023L << 52;
        }

        /** The lesser (direction -1) or the greater one (1); -0 is less than 0. */
        static long extreme(long a, long b, int direction) {
            if (isNan(a) || isNan(b)) {
                return NOT_A_NUMBER;
            }
            if (isZero(a) && isZero(b)) {
                return direction < 0 ? a | b : a & b;
            }
            boolean less = toDouble(a) < toDouble(b);
            return less == direction < 0 ? a : b;
        }

        /** Rounds to a whole: down (-1), up (1), or to the nearest one, of two to the even one (0). */
        static long rounded(long b, int direction) {
            if ((b & SIZE) >= 1075L << 52) {
                return b;
            }
            double a = toDouble(b & SIZE);
            long whole = (long) a;
            double rest = a - (double) whole;
            if (direction == 0) {
                whole += rest > 0.5 || rest == 0.5 && (whole & 1) == 1 ? 1 : 0;
            } else if (rest > 0 && b < 0 == direction < 0) {
                whole++;
            }
            return b & SIGN | toBits((double) whole);
        }
    }

    /** A value; it never changes, nor do its cells. */
    private static final class Value {
        static final int NOTHING = 0, INTEGER = 1, REAL = 2, LOGICAL = 3, ITEM = 4, INSTANCE = 5, AGGREGATE = 6;
        static final int ARRAY = 0, LIST = 1, BAG = 2, SET = 3;
        static final int FALSE = 0, UNKNOWN = 1, TRUE = 2;
        static final int PLACES_MOST = 24;
        private static final long[] NO_CELLS = {};

        final int kind;
        final long bits;
        final int sort;
        final int low;
        final int lane;
        /** The bit i is set if nothing is in place i. */
        final int holes;
        final long[] cells;

        /** A value that is no aggregate. */
        private Value(int kind, long bits) {
            this.kind = kind;
            this.bits = bits;
            this.sort = ARRAY;
            this.low = 0;
            this.lane = 0;
            this.holes = 0;
            this.cells = NO_CELLS;
        }

        /** An aggregate. */
        private Value(int sort, int low, int lane, int holes, long[] cells) {
            this.kind = AGGREGATE;
            this.bits = 0;
            this.sort = sort;
            this.low = low;
            this.lane = lane;
            this.holes = holes;
            this.cells = cells;
        }

        boolean isNumber() {
            return kind == INTEGER || kind == REAL;
        }

        boolean isTrue() {
            return kind == LOGICAL && bits == TRUE;
        }

        boolean isHole(int i) {
            return (holes >> i & 1) == 1;
        }

        /** The kind of what is in a place; 0, too, if there is no such place. */
        int kindAt(int i) {
            return i < 0 || i >= cells.length || isHole(i) ? NOTHING : lane;
        }

        /** The first position from a place on that has a value; the number of places if none has. */
        int filledFrom(int i) {
            int j = Math.max(0, i);
            while (j < cells.length && isHole(j)) {
                j++;
            }
            return j;
        }

        long bitsAt(int i) {
            return i < 0 || i >= cells.length || isHole(i) ? 0 : cells[i];
        }
    }

    /** What a schema says, in tables, and the code of its expressions and functions. */
    private static final class Schema {
        static final int TYPES = 0, ITEMS = 1, ENTITIES = 2, ATTRIBUTES = 3, FUNCTIONS = 4, RULES = 5;
        // cells of a type
        static final int FORM = 0, TYPE_KIND = 1, SEES = 2, ACCEPTS = 3, LISTED = 4;
        static final int KIND_FORM = 0, ENUM_FORM = 1, SELECT_FORM = 2;
        // cells of an entity; the first eight are those of entity()
        static final int ABSTRACT = 0, UNDER = 1, ABOVE = 2, EXPLICIT = 3, DERIVED = 4, INVERSE = 5, UNIQUES = 6,
            WHERES = 7, OVER = 8;
        // cells of an attribute; the first three are those of attribute()
        static final int ENTITY = 0, SORT = 1, OPTIONAL = 2, KIND = 3, FOR = 4, CODE = 5;
        static final int EXPLICIT_SORT = 0, DERIVED_SORT = 1, INVERSE_SORT = 2;
        // cells of a kind: as it is written, which is 3 to 6 of attribute(), and to what it leads through types
        static final int AGGREGATE = 0, LOW = 1, HIGH = 2, ITEM = 3;
        static final int END_AGGREGATE = 4, END_LOW = 5, END_HIGH = 6, ACCEPTED = 7, TO_REAL = 8, KIND_CELLS = 9;
        static final int INTEGER_ITEM = 0, REAL_ITEM = 1, LOGICAL_ITEM = 2, TYPE_ITEM = 3, ENTITY_ITEM = 20;
        /** The bits of what is accepted: those of the items up to the last type, and from here on those of entities. */
        static final int ENTITY_BIT = 11;
        // cells of a function
        static final int PARAMETERS = 0, RESULT = 1, START = 2, LOCAL_KINDS = 3;
        static final int LOCALS_MOST = 10, UNIQUES_MOST = 4, WHERES_MOST = 6;
        static final int BOUNDS_RULE = 0, UNIQUE_RULE = 1, ENTITY_RULE = 2, TYPE_RULE = 3, TEXT_RULE = 4;
        /** Where the expressions of an entity, a type and a rule are found: its number behind these ones. */
        static final int TYPE_SITE = 12, RULE_SITE = 20, SITES = 24;
        static final int OVER_END = 0, OVER_NAME = 1, OVER_ONEOF = 2, OVER_AND = 3, OVER_ANDOR = 4;
        private static final String BUILT_IN = "abs floor ceil rint sign sizeof lowindex highindex exists usedin odd copysign min max nvl";

        final long[] builtIn = Tokens.codesOf(BUILT_IN);
        final long[][] names = new long[6][40];
        final int[] counts = new int[6];
        final int[] itemTypes = new int[20];
        final int[][] types = new int[8][5];
        final int[][] entities = new int[12][9];
        /** The attributes of each list of a "unique", as bits. */
        final long[] uniques = new long[12 * UNIQUES_MOST];
        final int[][] attributes = new int[40][6];
        final int[][] kinds = new int[128][KIND_CELLS];
        final int[][] functions = new int[6][LOCAL_KINDS + LOCALS_MOST];
        final int[] wheres = new int[SITES];
        final int[] whereStarts = new int[SITES * WHERES_MOST];
        final int[] code = new int[12288];
        int codeEnd;
        int nodes;
        private final int[] combinationCounts = new int[12];
        private boolean counted;
        private final int[] overNames = new int[64];
        private final boolean[] overHits = new boolean[64];

        static int most(int sort) {
            switch (sort) {
                case TYPES: return 8;
                case ITEMS: return 20;
                case ENTITIES: return 12;
                case ATTRIBUTES: return 40;
                case FUNCTIONS: return 6;
                default: return 4;
            }
        }

        void clear() {
            Arrays.fill(counts, 0);
            Arrays.fill(uniques, 0);
            Arrays.fill(wheres, 0);
            Arrays.fill(itemTypes, 0);
            clearTable(types);
            clearTable(entities);
            clearTable(attributes);
            clearTable(kinds);
            clearTable(functions);
            for (int e = 0; e < entities.length; e++) {
                entities[e][OVER] = NONE;
            }
            codeEnd = 0;
            nodes = 0;
            counted = false;
        }

        private static void clearTable(int[][] table) {
            for (int i = 0; i < table.length; i++) {
                Arrays.fill(table[i], 0);
            }
        }

        void addName(int sort, long name) {
            if (sort >= 0 && sort < counts.length && counts[sort] < most(sort)) {
                names[sort][counts[sort]] = name;
                counts[sort]++;
            }
        }

        /** Whether something has this name already in the group of a sort of things. */
        boolean isTaken(int sort, long name) {
            for (int other = TYPES; other <= RULES; other++) {
                if ((other == ATTRIBUTES) == (sort == ATTRIBUTES) && find(other, name) >= 0) {
                    return true;
                }
            }
            return sort != ATTRIBUTES && findBuiltIn(name) >= 0;
        }

        /** The number of what has this name among one sort of things, or NONE. */
        int find(int sort, long name) {
            long[] known = names[sort];
            for (int i = 0; i < counts[sort] && i < known.length; i++) {
                if (known[i] == name) {
                    return i;
                }
            }
            return NONE;
        }

        int findBuiltIn(long name) {
            for (int i = 0; i < builtIn.length; i++) {
                if (builtIn[i] == name) {
                    return i;
                }
            }
            return NONE;
        }

        /** A cell of a kind; NONE if there is no such kind or cell. */
        int kindCell(int kind, int cell) {
            return kind < 0 || kind >= kinds.length || cell < 0 || cell >= KIND_CELLS ? NONE : kinds[kind][cell];
        }

        boolean isType(int item) {
            return item >= TYPE_ITEM && item < TYPE_ITEM + counts[TYPES] && item < TYPE_ITEM + types.length;
        }

        private boolean isKindType(int item) {
            return isType(item) && types[item - TYPE_ITEM][FORM] == KIND_FORM;
        }

        /** Works out what follows from the declarations: who is above whom, and what each type accepts. */
        void complete() {
            for (int turn = 0; turn < entities.length; turn++) {
                for (int e = 0; e < entities.length; e++) {
                    entities[e][ABOVE] = unionOf(entities, ABOVE, entities[e][UNDER]);
                }
            }
            for (int turn = 0; turn < types.length; turn++) {
                for (int t = 0; t < types.length; t++) {
                    types[t][ACCEPTS] |= acceptedThrough(t);
                }
            }
            for (int k = 0; k < kinds.length; k++) {
                int end = endOf(k);
                for (int cell = AGGREGATE; cell <= HIGH; cell++) {
                    kinds[k][END_AGGREGATE + cell] = kinds[end][cell];
                }
                int item = kinds[end][ITEM];
                kinds[k][ACCEPTED] = accepts(item);
                kinds[k][TO_REAL] = isReal(item) ? 1 : 0;
            }
            for (int t = 0; t < types.length; t++) {
                boolean listed = types[t][FORM] == KIND_FORM && kindCell(types[t][TYPE_KIND], END_AGGREGATE) >= 0;
                types[t][LISTED] = listed ? 1 : 0;
            }
        }

        /** The kind to which a kind leads through types that have a kind. */
        private int endOf(int kind) {
            int end = kind;
            for (int turn = 0; turn < types.length && goesOn(end); turn++) {
                end = types[kinds[end][ITEM] - TYPE_ITEM][TYPE_KIND];
            }
            return end;
        }

        private boolean goesOn(int kind) {
            return kindCell(kind, AGGREGATE) < 0 && isKindType(kindCell(kind, ITEM));
        }

        /** A set together with what a cell of each of its members says. */
        private static int unionOf(int[][] table, int cell, int set) {
            int union = set;
            for (int i = 0; i < table.length; i++) {
                union |= (set >> i & 1) == 1 ? table[i][cell] : 0;
            }
            return union;
        }

        private int acceptedThrough(int t) {
            if (types[t][FORM] == KIND_FORM && kindCell(types[t][TYPE_KIND], AGGREGATE) >= 0) {
                return 0;
            }
            int accepted = 0;
            for (int u = 0; u < types.length; u++) {
                accepted |= (types[t][SEES] >> u & 1) == 1 ? types[u][ACCEPTS] : 0;
            }
            return accepted;
        }

        /** Whether a type leads to itself. */
        boolean isCircular(int t) {
            int reached = types[t][SEES];
            for (int turn = 0; turn < types.length; turn++) {
                reached = unionOf(types, SEES, reached);
            }
            return (reached >> t & 1) == 1;
        }

        /** Whether an item is a type that is an aggregate, directly or through types. */
        boolean isAggregate(int item) {
            return item >= TYPE_ITEM && item < TYPE_ITEM + types.length && types[item - TYPE_ITEM][LISTED] == 1;
        }

        /** Whether an item is real, directly or through types, but not through a select. */
        private boolean isReal(int item) {
            if (!isKindType(item)) {
                return item == REAL_ITEM;
            }
            int end = endOf(types[item - TYPE_ITEM][TYPE_KIND]);
            return kindCell(end, AGGREGATE) < 0 && kindCell(end, ITEM) == REAL_ITEM;
        }

        /** What an item accepts, as bits: 0 to 2 the plain ones, 3 + t the items of type t, ENTITY_BIT + e entity e. */
        int accepts(int item) {
            if (item >= ENTITY_ITEM) {
                return 1 << ENTITY_BIT + item - ENTITY_ITEM;
            }
            if (isType(item)) {
                return types[item - TYPE_ITEM][ACCEPTS];
            }
            return item >= 0 && item <= LOGICAL_ITEM ? 1 << item : 0;
        }

        int typeOfItem(int item) {
            return item < 0 || item >= itemTypes.length ? NONE : itemTypes[item];
        }

        boolean isExplicit(int a) {
            return a >= 0 && a < counts[ATTRIBUTES] && attributes[a][SORT] == EXPLICIT_SORT;
        }

        /** The first explicit attribute from a on that one of these entities has, or NONE. */
        int explicitFrom(int a, int set) {
            for (int i = a; i >= 0 && i < counts[ATTRIBUTES]; i++) {
                if (attributes[i][SORT] == EXPLICIT_SORT && (set >> attributes[i][ENTITY] & 1) == 1) {
                    return i;
                }
            }
            return NONE;
        }

        /** Writes code behind that of the schema that gets an attribute of self; returns where it begins. */
        int codeOfAccess(int a) {
            if (codeEnd + 4 <= code.length) {
                code[codeEnd] = Machine.SELF;
                code[codeEnd + 1] = Machine.GET;
                code[codeEnd + 2] = a;
                code[codeEnd + 3] = Machine.RETURN;
            }
            return codeEnd;
        }

        /** Where the code of expression i of the "where" at a site begins. */
        int startOfWhere(int site, int i) {
            int at = site * WHERES_MOST + i;
            return at >= 0 && at < whereStarts.length ? whereStarts[at] : 0;
        }

        int ruleCount() {
            return 3 * counts[ENTITIES] + counts[TYPES] + counts[RULES];
        }

        int ruleSort(int r) {
            int behind = r - 3 * counts[ENTITIES];
            if (behind < 0) {
                return r % 3;
            }
            return behind < counts[TYPES] ? TYPE_RULE : TEXT_RULE;
        }

        int ruleOwner(int r) {
            int behind = r - 3 * counts[ENTITIES];
            if (behind < 0) {
                return r / 3;
            }
            return behind < counts[TYPES] ? behind : behind - counts[TYPES];
        }

        /** Whether a combination is a set of entities that exist. */
        boolean knows(int set) {
            return (set & ~((1 << counts[ENTITIES]) - 1)) == 0;
        }

        /** The first reason why a combination is not allowed, or 0. */
        int reason(int set) {
            if (set == 0) {
                return 1;
            }
            for (int e = 0; e < counts[ENTITIES]; e++) {
                if ((set >> e & 1) == 1 && (entities[e][UNDER] & ~set) != 0) {
                    return 2;
                }
            }
            if (!isConnected(set)) {
                return 3;
            }
            return reasonOfParts(set);
        }

        private boolean isConnected(int set) {
            int reached = set & -set;
            for (int turn = 0; turn < entities.length && reached != set; turn++) {
                for (int e = 0; e < counts[ENTITIES]; e++) {
                    int under = (set >> e & 1) == 1 ? entities[e][UNDER] & set : 0;
                    if ((reached >> e & 1) == 1 || (under & reached) != 0) {
                        reached |= under | (set & 1 << e);
                    }
                }
            }
            return reached == set;
        }

        private int reasonOfParts(int set) {
            for (int e = 0; e < counts[ENTITIES]; e++) {
                if ((set >> e & 1) == 1 && entities[e][ABSTRACT] == 1 && !isRefined(e, set)) {
                    return 4;
                }
            }
            for (int e = 0; e < counts[ENTITIES]; e++) {
                if ((set >> e & 1) == 1 && entities[e][OVER] >= 0 && !overAllows(entities[e][OVER], set)) {
                    return 5;
                }
            }
            return 0;
        }

        private boolean isRefined(int e, int set) {
            for (int i = 0; i < counts[ENTITIES]; i++) {
                if ((set >> i & 1) == 1 && (entities[i][UNDER] >> e & 1) == 1) {
                    return true;
                }
            }
            return false;
        }

        /**
         * Whether the entities of a combination that an "over" names are none, or just one of its sets. No name
         * stands in it twice, so that each part can be looked at by itself.
         */
        private boolean overAllows(int start, int set) {
            int depth = 0;
            for (int p = start; p >= 0 && p + 1 < code.length && code[p] != OVER_END; p += 2) {
                if (code[p] != OVER_NAME) {
                    depth = joinOver(code[p], depth, set);
                } else if (depth < overNames.length) {
                    overNames[depth] = 1 << code[p + 1];
                    overHits[depth] = (set >> code[p + 1] & 1) == 1;
                    depth++;
                }
            }
            return depth == 0 || (set & overNames[0]) == 0 || overHits[0];
        }

        /** Joins the two parts on top; returns how many parts there are then. */
        private int joinOver(int sign, int depth, int set) {
            int a = depth - 2;
            int b = depth - 1;
            if (a < 0 || b >= overNames.length) {
                return depth;
            }
            boolean both = overHits[a] && overHits[b];
            boolean justOne = overHits[a] && (set & overNames[b]) == 0 || overHits[b] && (set & overNames[a]) == 0;
            overHits[a] = sign != OVER_ONEOF && both || sign != OVER_AND && justOne;
            overNames[a] |= overNames[b];
            return b;
        }

        int combinationsWith(int e) {
            if (!counted) {
                countCombinations();
                counted = true;
            }
            return e < 0 || e >= combinationCounts.length ? 0 : combinationCounts[e];
        }

        private void countCombinations() {
            Arrays.fill(combinationCounts, 0);
            for (int set = 1; set < 1 << counts[ENTITIES]; set++) {
                if (reason(set) == 0) {
                    for (int e = 0; e < counts[ENTITIES] && e < combinationCounts.length; e++) {
                        combinationCounts[e] += set >> e & 1;
                    }
                }
            }
        }
    }

    /** Reads expressions, settles what their names mean, and writes their code. */
    private static final class Expressions {
        private final Tokens tokens;
        private Schema schema;
        /** Whether names are settled and code is written; before, the text is only read. */
        private boolean binding;
        int top;
        private final long[] hiding = new long[16];
        private final int[] hidingSlots = new int[16];
        private int hidings;
        final long[] locals = new long[Schema.LOCALS_MOST];
        int localCount;
        private int slots;
        /** The entity whose attributes are known, or NONE. */
        private int owner;
        private boolean selfKnown;

        Expressions(Tokens tokens, Schema schema) {
            this.tokens = tokens;
            this.schema = schema;
        }

        void startPass(Schema built, boolean binds) {
            schema = built;
            binding = binds;
            top = 0;
            enter(NONE, false);
        }

        /** What the next expressions stand in: an entity or NONE, and whether "self" has a meaning. */
        void enter(int entity, boolean withSelf) {
            owner = entity;
            selfKnown = withSelf;
            hidings = 0;
            localCount = 0;
            slots = 0;
        }

        /** Reads all tokens as one expression, with code behind that of the schema; returns where it begins. */
        int readAlone(Schema known) {
            schema = known;
            binding = true;
            top = known.codeEnd;
            enter(NONE, false);
            exp();
            tokens.expect(Tokens.END);
            emit(Machine.RETURN);
            return known.codeEnd;
        }

        void emit(int word) {
            if (binding && top >= 0 && top < schema.code.length) {
                schema.code[top] = word;
                top++;
            }
        }

        void emit(int word, int argument) {
            if (binding && top >= 0 && top + 1 < schema.code.length) {
                schema.code[top] = word;
                schema.code[top + 1] = argument;
                top += 2;
            }
        }

        void patch(int place, int word) {
            if (binding && place >= 0 && place < schema.code.length) {
                schema.code[place] = word;
            }
        }

        /** Counts one more step in the STEP with which a piece of code begins. */
        private void stepMore(int start) {
            if (binding && start >= 0 && start + 1 < schema.code.length) {
                schema.code[start + 1]++;
            }
        }

        static boolean startsExp(int token) {
            switch (token) {
                case Tokens.MINUS:
                case Tokens.NOT:
                case Tokens.WHOLE:
                case Tokens.REAL:
                case Tokens.TRUE:
                case Tokens.FALSE:
                case Tokens.UNKNOWN:
                case Tokens.QUESTION:
                case Tokens.SELF:
                case Tokens.HASH:
                case Tokens.NAME:
                case Tokens.QUERY:
                case Tokens.OPEN_SQUARE:
                case Tokens.OPEN:
                    return true;
                default:
                    return false;
            }
        }

        /** Hides what a name meant before; returns the slot of the variable that it means now. */
        int hide(long name) {
            int slot = slots;
            if (hidings < hiding.length) {
                hiding[hidings] = name;
                hidingSlots[hidings] = slot;
                hidings++;
            }
            slots++;
            return slot;
        }

        void unhide() {
            hidings -= hidings > 0 ? 1 : 0;
            slots--;
        }

        void addLocal(long name) {
            if (localCount < locals.length) {
                locals[localCount] = name;
                localCount++;
                slots = localCount;
            }
        }

        int findLocal(long name) {
            for (int i = 0; i < localCount && i < locals.length; i++) {
                if (locals[i] == name) {
                    return i;
                }
            }
            return NONE;
        }

        /** The slot of the innermost variable of a query or repeat with this name, or NONE. */
        int findHiding(long name) {
            for (int i = hidings - 1; i >= 0 && i < hiding.length; i--) {
                if (hiding[i] == name) {
                    return hidingSlots[i];
                }
            }
            return NONE;
        }

        /** Passes the first token of a node, whose step counts in the STEP at the start. */
        private void operator(int start) {
            if (tokens.node()) {
                tokens.advance();
            } else {
                tokens.fail(5);
            }
            stepMore(start);
        }

        private void exp() {
            int start = top;
            sum();
            int sign = tokens.current;
            if (sign >= Tokens.LESS && sign <= Tokens.SAME || sign == Tokens.IN) {
                operator(start);
                sum();
                emit(Machine.COMPARE, sign);
            }
        }

        private void sum() {
            int start = top;
            term();
            for (int n = 0; n < MANY && isSumSign(tokens.current); n++) {
                int sign = tokens.current;
                operator(start);
                term();
                emitOperator(sign);
            }
        }

        private static boolean isSumSign(int token) {
            return token == Tokens.PLUS || token == Tokens.MINUS || token == Tokens.OR || token == Tokens.XOR;
        }

        private void term() {
            int start = top;
            fact();
            for (int n = 0; n < MANY && isTermSign(tokens.current); n++) {
                int sign = tokens.current;
                operator(start);
                fact();
                emitOperator(sign);
            }
        }

        private static boolean isTermSign(int token) {
            return token == Tokens.TIMES || token == Tokens.SLASH || token == Tokens.DIV || token == Tokens.MOD
                || token == Tokens.AND;
        }

        private void emitOperator(int sign) {
            boolean logic = sign == Tokens.AND || sign == Tokens.OR || sign == Tokens.XOR;
            emit(logic ? Machine.LOGIC : Machine.ARITHMETIC, sign);
        }

        /** Its STEP, the first one of the code of all expressions that begin here, counts for them all. */
        private void fact() {
            int start = top;
            emit(Machine.STEP, 0);
            int sign = tokens.current;
            if (sign != Tokens.MINUS && sign != Tokens.NOT) {
                part(start);
                return;
            }
            tokens.open();
            operator(start);
            part(start);
            tokens.close();
            emit(sign == Tokens.NOT ? Machine.INVERT : Machine.NEGATE);
        }

        private void part(int start) {
            base(start);
            for (int n = 0; n < MANY && (tokens.is(Tokens.POINT) || tokens.is(Tokens.OPEN_SQUARE)); n++) {
                if (tokens.is(Tokens.POINT)) {
                    operator(start);
                    member();
                } else {
                    tokens.open();
                    operator(start);
                    exp();
                    tokens.expect(Tokens.CLOSE_SQUARE);
                    tokens.close();
                    emit(Machine.INDEX);
                }
            }
        }

        private void member() {
            int a = schema.find(Schema.ATTRIBUTES, tokens.value);
            if (binding && a < 0 && tokens.is(Tokens.NAME)) {
                tokens.soft(4, tokens.place);
            }
            tokens.expect(Tokens.NAME);
            emit(Machine.GET, a);
        }

        private void base(int start) {
            switch (tokens.current) {
                case Tokens.OPEN:
                    tokens.open();
                    tokens.advance();
                    exp();
                    tokens.expect(Tokens.CLOSE);
                    tokens.close();
                    break;
                case Tokens.OPEN_SQUARE:
                    tokens.open();
                    operator(start);
                    list();
                    break;
                case Tokens.QUERY:
                    tokens.open();
                    operator(start);
                    query();
                    break;
                case Tokens.NAME:
                    named(start);
                    break;
                default:
                    int token = tokens.current;
                    long value = tokens.value;
                    int place = tokens.place;
                    if (startsExp(token) && token != Tokens.MINUS && token != Tokens.NOT) {
                        operator(start);
                        constant(token, value, place);
                    } else {
                        tokens.refuse();
                    }
                    break;
            }
        }

        private void named(int start) {
            long name = tokens.value;
            int place = tokens.place;
            operator(start);
            if (tokens.is(Tokens.OPEN)) {
                invocation(name, place);
            } else if (binding) {
                meaning(name, place);
            }
        }

        /** Writes a base of one token, which has been passed, or reads the number behind a "#". */
        private void constant(int token, long value, int place) {
            switch (token) {
                case Tokens.WHOLE:
                    emit(Machine.INTEGER, (int) value);
                    break;
                case Tokens.REAL:
                    emit(Machine.REAL, (int) (value >> 32));
                    emit((int) value);
                    break;
                case Tokens.QUESTION:
                    emit(Machine.NOTHING);
                    break;
                case Tokens.SELF:
                    if (binding && !selfKnown) {
                        tokens.soft(4, place);
                    }
                    emit(Machine.SELF);
                    break;
                case Tokens.HASH:
                    emit(Machine.INSTANCE, (int) tokens.value);
                    tokens.expect(Tokens.WHOLE);
                    break;
                default:
                    emit(Machine.LOGICAL, token == Tokens.FALSE ? Value.FALSE
                        : token == Tokens.TRUE ? Value.TRUE : Value.UNKNOWN);
                    break;
            }
        }

        /** Writes what a name means that is no function. */
        private void meaning(long name, int place) {
            int slot = findHiding(name);
            slot = slot < 0 ? findLocal(name) : slot;
            int a = owner < 0 ? NONE : schema.find(Schema.ATTRIBUTES, name);
            int item = schema.find(Schema.ITEMS, name);
            int entity = schema.find(Schema.ENTITIES, name);
            if (slot >= 0) {
                emit(Machine.LOCAL, slot);
            } else if (a >= 0 && isKnownTo(owner, a)) {
                emit(Machine.SELF);
                emit(Machine.GET, a);
            } else if (item >= 0) {
                emit(Machine.ITEM, item);
            } else if (entity >= 0) {
                emit(Machine.ENTITY, entity);
            } else {
                tokens.soft(4, place);
            }
        }

        /** Whether an attribute is one of an entity or of one above it. */
        boolean isKnownTo(int entity, int a) {
            int of = schema.attributes[a][Schema.ENTITY];
            return of == entity || (schema.entities[entity][Schema.ABOVE] >> of & 1) == 1;
        }

        private void invocation(long name, int place) {
            tokens.open();
            tokens.advance();
            int given = 0;
            if (!tokens.is(Tokens.CLOSE)) {
                exp();
                given++;
                for (int n = 0; n < MANY && tokens.is(Tokens.COMMA); n++) {
                    tokens.advance();
                    exp();
                    given++;
                }
            }
            tokens.expect(Tokens.CLOSE);
            tokens.close();
            if (!binding) {
                return;
            }
            int f = schema.find(Schema.FUNCTIONS, name);
            int b = schema.findBuiltIn(name);
            if (f >= 0 && schema.functions[f][Schema.PARAMETERS] == given) {
                emit(Machine.CALL, f);
            } else if (b >= 0 && given == (b < Operators.COPYSIGN ? 1 : 2)) {
                emit(Machine.BUILT_IN, b);
            } else {
                tokens.soft(4, place);
            }
        }

        /** Reads a list behind its "[". */
        private void list() {
            int given = 0;
            if (!tokens.is(Tokens.CLOSE_SQUARE)) {
                some();
                given++;
                for (int n = 0; n < MANY && tokens.is(Tokens.COMMA); n++) {
                    tokens.advance();
                    some();
                    given++;
                }
            }
            tokens.expect(Tokens.CLOSE_SQUARE);
            tokens.close();
            emit(Machine.LIST, given);
        }

        private void some() {
            exp();
            if (tokens.is(Tokens.COLON)) {
                tokens.advance();
                exp();
            } else {
                emit(Machine.INTEGER, 1);
            }
        }

        /** Reads a query behind its word. */
        private void query() {
            tokens.expect(Tokens.OPEN);
            long name = tokens.value;
            tokens.expect(Tokens.NAME);
            tokens.expect(Tokens.FROM);
            sum();
            tokens.expect(Tokens.BAR);
            int slot = hide(name);
            emit(Machine.QUERY, slot);
            int exit = top;
            emit(0);
            int turn = top;
            emit(Machine.NEXT, slot);
            int exitToo = top;
            emit(0);
            exp();
            emit(Machine.TEST, slot);
            emit(turn);
            unhide();
            patch(exit, top);
            patch(exitToo, top);
            tokens.expect(Tokens.CLOSE);
            tokens.close();
        }
    }

    /** Reads schemas: three times each, to declare the names, to learn the shapes, and to settle the rest. */
    private static final class SchemaReader {
        static final int DECLARE = 1, SHAPE = 2, BIND = 3;
        private static final int PARAMETERS_MOST = 4, VARIABLES_MOST = 6, STATEMENTS_MOST = 120, INSIDE_MOST = 6,
            BOUND_MOST = 24;

        private final Tokens tokens;
        private final Expressions expressions;
        private Schema draft = new Schema();
        private int pass;
        /** How many of each sort this pass has met. */
        private final int[] met = new int[6];
        private int kindsMet;
        private int statementsMet;
        private int overSeen;
        private int loopExit;
        private int loopNext;

        SchemaReader(Tokens tokens, Expressions expressions) {
            this.tokens = tokens;
            this.expressions = expressions;
        }

        /** Hands out the schema that was read, and takes one to read the next into. */
        Schema exchange(Schema old) {
            Schema built = draft;
            draft = old;
            return built;
        }

        void start() {
            draft.clear();
        }

        /** Reads the whole text in one of the three passes, DECLARE to BIND. */
        void readThrough(int number) {
            pass = number;
            tokens.rewind();
            expressions.startPass(draft, pass == BIND);
            Arrays.fill(met, 0);
            kindsMet = 0;
            statementsMet = 0;
            tokens.expect(Tokens.SCHEMA);
            tokens.expect(Tokens.NAME);
            tokens.expect(Tokens.SEMICOLON);
            boolean more = true;
            for (int n = 0; n < MANY && more; n++) {
                switch (tokens.current) {
                    case Tokens.TYPE:
                        type();
                        break;
                    case Tokens.ENTITY:
                        entityPart();
                        break;
                    case Tokens.FUNCTION:
                        function();
                        break;
                    case Tokens.RULE:
                        textRule();
                        break;
                    default:
                        more = false;
                        break;
                }
            }
            finish();
            tokens.expect(Tokens.END);
            draft.codeEnd = expressions.top;
            draft.nodes = tokens.nodes;
            if (pass == SHAPE) {
                draft.complete();
            }
        }

        private void finish() {
            tokens.expect(Tokens.FINISH);
            tokens.expect(Tokens.SEMICOLON);
        }

        /** Reads the name of something new; returns its number. */
        private int declare(int sort) {
            int most = Schema.most(sort);
            int number = met[sort];
            if (pass == DECLARE && tokens.is(Tokens.NAME)) {
                if (draft.isTaken(sort, tokens.value)) {
                    tokens.fail(3);
                } else if (number >= most) {
                    tokens.fail(5);
                } else {
                    draft.addName(sort, tokens.value);
                }
            }
            tokens.expect(Tokens.NAME);
            met[sort]++;
            return number < most ? number : most - 1;
        }

        /** Notes that a name does not mean what it must, once all names are known. */
        private void misnamed() {
            if (pass != DECLARE && tokens.is(Tokens.NAME)) {
                tokens.soft(4, tokens.place);
            }
        }

        private void type() {
            tokens.advance();
            int place = tokens.place;
            int t = declare(Schema.TYPES);
            if (pass == BIND && draft.isCircular(t)) {
                tokens.soft(6, place);
            }
            tokens.expect(Tokens.EQUAL);
            if (tokens.is(Tokens.ENUM)) {
                enumeration(t);
            } else if (tokens.is(Tokens.SELECT)) {
                selection(t);
            } else {
                plainType(t);
            }
            tokens.expect(Tokens.SEMICOLON);
            if (tokens.is(Tokens.WHERE)) {
                expressions.enter(NONE, true);
                where(Schema.TYPE_SITE + t);
            }
            finish();
        }

        private void enumeration(int t) {
            draft.types[t][Schema.FORM] = Schema.ENUM_FORM;
            draft.types[t][Schema.ACCEPTS] = 1 << 3 + t;
            tokens.advance();
            tokens.expect(Tokens.OPEN);
            draft.itemTypes[declare(Schema.ITEMS)] = t;
            for (int n = 0; n < MANY && tokens.is(Tokens.COMMA); n++) {
                tokens.advance();
                draft.itemTypes[declare(Schema.ITEMS)] = t;
            }
            tokens.expect(Tokens.CLOSE);
        }

        private void selection(int t) {
            draft.types[t][Schema.FORM] = Schema.SELECT_FORM;
            tokens.advance();
            tokens.expect(Tokens.OPEN);
            see(t, namedItem(true), true);
            for (int n = 0; n < MANY && tokens.is(Tokens.COMMA); n++) {
                tokens.advance();
                see(t, namedItem(true), true);
            }
            tokens.expect(Tokens.CLOSE);
        }

        private void plainType(int t) {
            int k = kind();
            draft.types[t][Schema.FORM] = Schema.KIND_FORM;
            draft.types[t][Schema.TYPE_KIND] = k;
            see(t, draft.kindCell(k, Schema.ITEM), draft.kindCell(k, Schema.AGGREGATE) < 0);
        }

        /** Notes that a type names an item, and whether it accepts what that accepts. */
        private void see(int t, int item, boolean accepting) {
            if (pass != SHAPE) {
                return;
            }
            if (draft.isType(item)) {
                draft.types[t][Schema.SEES] |= 1 << item - Schema.TYPE_ITEM;
            } else if (accepting) {
                draft.types[t][Schema.ACCEPTS] |= draft.accepts(item);
            }
        }

        /** Reads the name of a type or an entity; returns it as an item, or NONE. */
        private int namedItem(boolean inAggregate) {
            int t = draft.find(Schema.TYPES, tokens.value);
            int e = draft.find(Schema.ENTITIES, tokens.value);
            int item = t >= 0 ? Schema.TYPE_ITEM + t : e >= 0 ? Schema.ENTITY_ITEM + e : NONE;
            boolean fine = item >= 0 && !(inAggregate && draft.isAggregate(item));
            if (!fine && pass != DECLARE && tokens.is(Tokens.NAME)) {
                tokens.soft(4, tokens.place);
            }
            tokens.expect(Tokens.NAME);
            return item;
        }

        /** Reads a kind; returns its number in the table of kinds. */
        private int kind() {
            int k = newKind(tokens.current >= Tokens.ARRAY && tokens.current <= Tokens.SET
                ? tokens.current - Tokens.ARRAY : NONE);
            boolean aggregate = draft.kinds[k][Schema.AGGREGATE] >= 0;
            if (aggregate) {
                tokens.advance();
                bounds(k);
                tokens.expect(Tokens.OF);
            }
            int plain = tokens.current - Tokens.INTEGER;
            if (plain >= Schema.INTEGER_ITEM && plain <= Schema.LOGICAL_ITEM) {
                draft.kinds[k][Schema.ITEM] = plain;
                tokens.advance();
            } else {
                draft.kinds[k][Schema.ITEM] = namedItem(aggregate);
            }
            return k;
        }

        private int newKind(int sort) {
            int k = kindsMet < draft.kinds.length ? kindsMet : draft.kinds.length - 1;
            kindsMet++;
            draft.kinds[k][Schema.AGGREGATE] = sort;
            draft.kinds[k][Schema.LOW] = NONE;
            draft.kinds[k][Schema.HIGH] = NONE;
            return k;
        }

        private void bounds(int k) {
            int[] cells = draft.kinds[k];
            tokens.expect(Tokens.OPEN_SQUARE);
            if (tokens.is(Tokens.WHOLE) && tokens.value > BOUND_MOST) {
                tokens.fail(5);
            }
            cells[Schema.LOW] = (int) tokens.value;
            tokens.expect(Tokens.WHOLE);
            tokens.expect(Tokens.COLON);
            if (tokens.is(Tokens.QUESTION)) {
                tokens.advance();
            } else {
                if (tokens.is(Tokens.WHOLE) && (tokens.value > BOUND_MOST || tokens.value < cells[Schema.LOW])) {
                    tokens.fail(5);
                }
                cells[Schema.HIGH] = (int) tokens.value;
                tokens.expect(Tokens.WHOLE);
            }
            tokens.expect(Tokens.CLOSE_SQUARE);
        }

        private void where(int site) {
            tokens.advance();
            int n = 0;
            for (int turn = 0; turn < MANY && Expressions.startsExp(tokens.current); turn++) {
                if (n >= Schema.WHERES_MOST) {
                    tokens.fail(5);
                } else {
                    draft.whereStarts[site * Schema.WHERES_MOST + n] = expressions.top;
                    n++;
                    expressions.exp();
                    expressions.emit(Machine.RETURN);
                    tokens.expect(Tokens.SEMICOLON);
                }
            }
            draft.wheres[site] = n;
        }

        private void textRule() {
            tokens.advance();
            int r = declare(Schema.RULES);
            tokens.expect(Tokens.SEMICOLON);
            expressions.enter(NONE, false);
            if (tokens.is(Tokens.WHERE)) {
                where(Schema.RULE_SITE + r);
            } else {
                tokens.refuse();
            }
            finish();
        }

        private void entityPart() {
            tokens.advance();
            int place = tokens.place;
            int e = declare(Schema.ENTITIES);
            int[] cells = draft.entities[e];
            if (pass == BIND && (cells[Schema.ABOVE] >> e & 1) == 1) {
                tokens.soft(6, place);
            }
            if (tokens.is(Tokens.ABSTRACT)) {
                tokens.advance();
                cells[Schema.ABSTRACT] = 1;
            }
            if (tokens.is(Tokens.UNDER)) {
                under(e);
            }
            if (tokens.is(Tokens.OVER)) {
                tokens.advance();
                overSeen = 0;
                cells[Schema.OVER] = expressions.top;
                over(e);
                expressions.emit(Schema.OVER_END, 0);
            }
            tokens.expect(Tokens.SEMICOLON);
            attributes(e);
            if (tokens.is(Tokens.UNIQUE)) {
                uniques(e);
            }
            if (tokens.is(Tokens.WHERE)) {
                expressions.enter(e, true);
                where(e);
                cells[Schema.WHERES] = draft.wheres[e];
            }
            finish();
        }

        private void under(int e) {
            int named = 0;
            for (int n = 0; n < MANY && (n == 0 || tokens.is(Tokens.COMMA)); n++) {
                tokens.advance();
                int above = draft.find(Schema.ENTITIES, tokens.value);
                if (above < 0 || (named >> above & 1) == 1) {
                    misnamed();
                } else {
                    named |= 1 << above;
                }
                tokens.expect(Tokens.NAME);
            }
            draft.entities[e][Schema.UNDER] = named;
        }

        /** Reads a "super" of entity e; what joins two parts is written behind them. */
        private void over(int e) {
            bothOver(e);
            for (int n = 0; n < MANY && tokens.is(Tokens.ANDOR); n++) {
                tokens.advance();
                bothOver(e);
                expressions.emit(Schema.OVER_ANDOR, 0);
            }
        }

        private void bothOver(int e) {
            oneOver(e);
            for (int n = 0; n < MANY && tokens.is(Tokens.AND); n++) {
                tokens.advance();
                oneOver(e);
                expressions.emit(Schema.OVER_AND, 0);
            }
        }

        private void oneOver(int e) {
            boolean choice = tokens.is(Tokens.ONEOF);
            if (!choice && !tokens.is(Tokens.OPEN)) {
                nameOver(e);
                return;
            }
            if (choice) {
                tokens.advance();
            }
            if (tokens.is(Tokens.OPEN)) {
                tokens.open();
            }
            tokens.expect(Tokens.OPEN);
            over(e);
            for (int n = 0; n < MANY && choice && tokens.is(Tokens.COMMA); n++) {
                tokens.advance();
                over(e);
                expressions.emit(Schema.OVER_ONEOF, 0);
            }
            tokens.expect(Tokens.CLOSE);
            tokens.close();
        }

        private void nameOver(int e) {
            int below = draft.find(Schema.ENTITIES, tokens.value);
            boolean fine = below >= 0 && (overSeen >> below & 1) == 0;
            if (!fine || pass == BIND && (draft.entities[below][Schema.UNDER] >> e & 1) == 0) {
                misnamed();
            }
            overSeen |= below < 0 ? 0 : 1 << below;
            tokens.expect(Tokens.NAME);
            expressions.emit(Schema.OVER_NAME, below < 0 ? 0 : below);
        }

        private void attributes(int e) {
            int[] cells = draft.entities[e];
            cells[Schema.EXPLICIT] = 0;
            cells[Schema.DERIVED] = 0;
            cells[Schema.INVERSE] = 0;
            for (int n = 0; n < MANY && tokens.is(Tokens.NAME); n++) {
                explicit(e);
                cells[Schema.EXPLICIT]++;
            }
            if (tokens.is(Tokens.DERIVE)) {
                tokens.advance();
                for (int n = 0; n < MANY && tokens.is(Tokens.NAME); n++) {
                    derived(e);
                    cells[Schema.DERIVED]++;
                }
            }
            if (tokens.is(Tokens.INVERSE)) {
                tokens.advance();
                for (int n = 0; n < MANY && tokens.is(Tokens.NAME); n++) {
                    inverse(e);
                    cells[Schema.INVERSE]++;
                }
            }
        }

        private int[] attributeOf(int number, int e, int sort) {
            int[] cells = draft.attributes[number];
            cells[Schema.ENTITY] = e;
            cells[Schema.SORT] = sort;
            return cells;
        }

        private void explicit(int e) {
            int[] cells = attributeOf(declare(Schema.ATTRIBUTES), e, Schema.EXPLICIT_SORT);
            tokens.expect(Tokens.COLON);
            if (tokens.is(Tokens.OPTIONAL)) {
                tokens.advance();
                cells[Schema.OPTIONAL] = 1;
            }
            cells[Schema.KIND] = kind();
            tokens.expect(Tokens.SEMICOLON);
        }

        private void derived(int e) {
            int[] cells = attributeOf(declare(Schema.ATTRIBUTES), e, Schema.DERIVED_SORT);
            tokens.expect(Tokens.COLON);
            cells[Schema.KIND] = kind();
            tokens.expect(Tokens.EQUAL);
            expressions.enter(e, true);
            cells[Schema.CODE] = expressions.top;
            expressions.exp();
            expressions.emit(Machine.RETURN);
            tokens.expect(Tokens.SEMICOLON);
        }

        private void inverse(int e) {
            int[] cells = attributeOf(declare(Schema.ATTRIBUTES), e, Schema.INVERSE_SORT);
            tokens.expect(Tokens.COLON);
            int user = draft.find(Schema.ENTITIES, tokens.value);
            if (user < 0) {
                misnamed();
            }
            tokens.expect(Tokens.NAME);
            tokens.expect(Tokens.FOR);
            int a = draft.find(Schema.ATTRIBUTES, tokens.value);
            if (!draft.isExplicit(a) || draft.attributes[a][Schema.ENTITY] != user) {
                misnamedAtLast();
            }
            cells[Schema.FOR] = a;
            tokens.expect(Tokens.NAME);
            int k = newKind(Value.SET);
            cells[Schema.KIND] = k;
            draft.kinds[k][Schema.ITEM] = user < 0 ? NONE : Schema.ENTITY_ITEM + user;
            bounds(k);
            tokens.expect(Tokens.SEMICOLON);
        }

        /** As misnamed(), where all shapes have to be known, too. */
        private void misnamedAtLast() {
            if (pass == BIND && tokens.is(Tokens.NAME)) {
                tokens.soft(4, tokens.place);
            }
        }

        private void uniques(int e) {
            tokens.advance();
            int lists = 0;
            for (int n = 0; n < MANY && tokens.is(Tokens.NAME); n++) {
                if (lists >= Schema.UNIQUES_MOST) {
                    tokens.fail(5);
                } else {
                    draft.uniques[e * Schema.UNIQUES_MOST + lists] = uniqueList(e);
                    lists++;
                }
            }
            draft.entities[e][Schema.UNIQUES] = lists;
        }

        private long uniqueList(int e) {
            long set = uniqueName(e);
            for (int n = 0; n < MANY && tokens.is(Tokens.COMMA); n++) {
                tokens.advance();
                set |= uniqueName(e);
            }
            tokens.expect(Tokens.SEMICOLON);
            return set;
        }

        private long uniqueName(int e) {
            int a = draft.find(Schema.ATTRIBUTES, tokens.value);
            boolean fine = draft.isExplicit(a) && expressions.isKnownTo(e, a);
            if (!fine) {
                misnamedAtLast();
            }
            tokens.expect(Tokens.NAME);
            return fine ? 1L << a : 0;
        }

        private void function() {
            tokens.advance();
            int[] cells = draft.functions[declare(Schema.FUNCTIONS)];
            expressions.enter(NONE, false);
            tokens.expect(Tokens.OPEN);
            if (!tokens.is(Tokens.CLOSE)) {
                local(cells, PARAMETERS_MOST);
                for (int n = 0; n < MANY && tokens.is(Tokens.COMMA); n++) {
                    tokens.advance();
                    local(cells, PARAMETERS_MOST);
                }
            }
            int parameters = expressions.localCount;
            cells[Schema.PARAMETERS] = parameters;
            tokens.expect(Tokens.CLOSE);
            tokens.expect(Tokens.COLON);
            cells[Schema.RESULT] = kind();
            tokens.expect(Tokens.SEMICOLON);
            for (int n = 0; n < MANY && tokens.is(Tokens.VAR); n++) {
                tokens.advance();
                local(cells, parameters + VARIABLES_MOST);
                tokens.expect(Tokens.SEMICOLON);
            }
            cells[Schema.START] = expressions.top;
            loopExit = NONE;
            loopNext = NONE;
            statements(cells, 0);
            expressions.emit(Machine.LEAVE);
            finish();
        }

        /** Reads a parameter or variable; most is how many there may be with it. */
        private void local(int[] cells, int most) {
            int slot = expressions.localCount;
            if (tokens.is(Tokens.NAME)) {
                if (expressions.findLocal(tokens.value) >= 0) {
                    tokens.fail(3);
                } else if (slot >= most) {
                    tokens.fail(5);
                } else {
                    expressions.addLocal(tokens.value);
                }
            }
            tokens.expect(Tokens.NAME);
            tokens.expect(Tokens.COLON);
            int k = kind();
            if (Schema.LOCAL_KINDS + slot < cells.length) {
                cells[Schema.LOCAL_KINDS + slot] = k;
            }
        }

        private void statements(int[] cells, int inside) {
            for (int n = 0; n < MANY && startsStatement(tokens.current); n++) {
                statementsMet++;
                if (statementsMet > STATEMENTS_MOST || inside >= INSIDE_MOST) {
                    tokens.fail(5);
                } else {
                    statement(cells, inside);
                }
            }
        }

        private static boolean startsStatement(int token) {
            return token == Tokens.NAME || token == Tokens.IF || token == Tokens.REPEAT || token == Tokens.WHILE
                || token == Tokens.ESCAPE || token == Tokens.SKIP || token == Tokens.RETURN;
        }

        private void statement(int[] cells, int inside) {
            expressions.emit(Machine.STEP, 1);
            switch (tokens.current) {
                case Tokens.NAME:
                    assignment(cells);
                    break;
                case Tokens.IF:
                    choice(cells, inside);
                    break;
                case Tokens.REPEAT:
                    repetition(cells, inside);
                    break;
                case Tokens.WHILE:
                    whileLoop(cells, inside);
                    break;
                case Tokens.ESCAPE:
                    leap(loopExit);
                    break;
                case Tokens.SKIP:
                    leap(loopNext);
                    break;
                default:
                    tokens.advance();
                    expressions.exp();
                    expressions.emit(Machine.RETURN);
                    tokens.expect(Tokens.SEMICOLON);
                    break;
            }
        }

        /** Reads "escape" or "skip", which ends the function outside of a loop. */
        private void leap(int target) {
            tokens.advance();
            if (target < 0) {
                expressions.emit(Machine.LEAVE);
            } else {
                expressions.emit(Machine.JUMP, target);
            }
            tokens.expect(Tokens.SEMICOLON);
        }

        private void assignment(int[] cells) {
            long name = tokens.value;
            int slot = expressions.findHiding(name) >= 0 ? NONE : expressions.findLocal(name);
            if (slot < 0) {
                misnamedAtLast();
            }
            tokens.advance();
            boolean indexed = tokens.is(Tokens.OPEN_SQUARE);
            if (indexed) {
                tokens.advance();
                expressions.exp();
                tokens.expect(Tokens.CLOSE_SQUARE);
            }
            tokens.expect(Tokens.EQUAL);
            expressions.exp();
            tokens.expect(Tokens.SEMICOLON);
            expressions.emit(indexed ? Machine.STORE_AT : Machine.STORE, slot);
            expressions.emit(slot < 0 ? 0 : cells[Schema.LOCAL_KINDS + slot]);
        }

        private void choice(int[] cells, int inside) {
            tokens.advance();
            expressions.exp();
            tokens.expect(Tokens.THEN);
            expressions.emit(Machine.UNLESS);
            int otherwise = expressions.top;
            expressions.emit(0);
            statements(cells, inside + 1);
            if (tokens.is(Tokens.ELSE)) {
                tokens.advance();
                expressions.emit(Machine.JUMP);
                int end = expressions.top;
                expressions.emit(0);
                expressions.patch(otherwise, expressions.top);
                statements(cells, inside + 1);
                expressions.patch(end, expressions.top);
            } else {
                expressions.patch(otherwise, expressions.top);
            }
            finish();
        }

        /** Writes the jump that all of a loop use to get behind it; returns the place of its target. */
        private int startLoop(int jumpOver) {
            expressions.emit(Machine.JUMP, expressions.top + 4 + jumpOver);
            loopExit = expressions.top;
            expressions.emit(Machine.JUMP);
            int end = expressions.top;
            expressions.emit(0);
            loopNext = expressions.top;
            return end;
        }

        private void repetition(int[] cells, int inside) {
            tokens.advance();
            long name = tokens.value;
            tokens.expect(Tokens.NAME);
            tokens.expect(Tokens.EQUAL);
            expressions.exp();
            tokens.expect(Tokens.TO);
            expressions.exp();
            if (tokens.is(Tokens.BY)) {
                tokens.advance();
                expressions.exp();
            } else {
                expressions.emit(Machine.INTEGER, 1);
            }
            tokens.expect(Tokens.SEMICOLON);
            int outerExit = loopExit;
            int outerNext = loopNext;
            int slot = expressions.hide(name);
            expressions.emit(Machine.REPEAT, slot);
            int end = startLoop(3);
            expressions.emit(Machine.ADVANCE, slot);
            expressions.emit(loopExit);
            expressions.emit(Machine.TURN, slot);
            expressions.emit(loopExit);
            statements(cells, inside + 1);
            endLoop(end, outerExit, outerNext);
            expressions.unhide();
        }

        private void endLoop(int end, int outerExit, int outerNext) {
            expressions.emit(Machine.JUMP, loopNext);
            expressions.patch(end, expressions.top);
            loopExit = outerExit;
            loopNext = outerNext;
            finish();
        }

        private void whileLoop(int[] cells, int inside) {
            tokens.advance();
            int outerExit = loopExit;
            int outerNext = loopNext;
            int end = startLoop(0);
            expressions.exp();
            tokens.expect(Tokens.SEMICOLON);
            expressions.emit(Machine.UNLESS, loopExit);
            statements(cells, inside + 1);
            endLoop(end, outerExit, outerNext);
        }
    }

    /** The instances, what their attributes hold, and what of all this is saved. */
    private static final class Population {
        static final int MOST = 40;
        private static final int ATTRIBUTES = 40;

        Schema schema;
        final Value nothing = new Value(Value.NOTHING, 0);
        int made;
        /** The combinations; behind those of the instances that were made, those that a file may make. */
        final int[] combinations = new int[512];
        private final Value[] held = new Value[MOST * ATTRIBUTES];
        private boolean saved;
        private int savedMade;
        private final int[] savedCombinations = new int[MOST];
        private final Value[] savedHeld = new Value[MOST * ATTRIBUTES];
        /** For each instance the first one that it is alike to, as long as they are not stale. */
        private int[] likenesses = new int[MOST];
        private int[] finer = new int[MOST];
        private boolean stale = true;

        Population(Schema schema) {
            this.schema = schema;
            for (int i = 0; i < held.length; i++) {
                held[i] = nothing;
                savedHeld[i] = nothing;
            }
        }

        void clear() {
            made = 0;
            saved = false;
            stale = true;
        }

        boolean exists(int x) {
            return x >= 0 && x < made && x < MOST && combinations[x] != 0;
        }

        int existing() {
            int count = 0;
            for (int x = 0; x < made; x++) {
                count += exists(x) ? 1 : 0;
            }
            return count;
        }

        /** The combination of an instance, 0 if there is none. */
        int rowOf(int x) {
            return x >= 0 && x < combinations.length ? combinations[x] : 0;
        }

        boolean isA(int x, int e) {
            return exists(x) && (combinations[x] >> e & 1) == 1;
        }

        /** Whether x exists and has the attribute a. */
        boolean has(int x, int a) {
            return a >= 0 && a < schema.counts[Schema.ATTRIBUTES] && isA(x, schema.attributes[a][Schema.ENTITY]);
        }

        /** What an explicit attribute of an instance holds. */
        Value heldBy(int x, int a) {
            return x >= 0 && x < MOST && a >= 0 && a < ATTRIBUTES ? held[x * ATTRIBUTES + a] : nothing;
        }

        void hold(int x, int a, Value value) {
            if (x >= 0 && x < MOST && a >= 0 && a < ATTRIBUTES) {
                held[x * ATTRIBUTES + a] = value;
                stale = true;
            }
        }

        int add(int combination) {
            int x = made;
            empty(x);
            combinations[x] = combination;
            made++;
            stale = true;
            return x;
        }

        /** Lets all attributes of an instance hold nothing. */
        void empty(int x) {
            for (int a = 0; a < ATTRIBUTES; a++) {
                hold(x, a, nothing);
            }
        }

        /** Lets a number have a combination before an instance with it is taken up. */
        void announce(int x, int combination) {
            if (x >= made && x < combinations.length) {
                combinations[x] = combination;
            }
        }

        /** Takes up the instances of a file, which stand behind those that were made. */
        void addAll(int count) {
            made += count;
            stale = true;
        }

        void remove(int x) {
            combinations[x] = 0;
            empty(x);
            for (int y = 0; y < made; y++) {
                for (int a = 0; a < ATTRIBUTES; a++) {
                    Value value = heldBy(y, a);
                    if (isHolding(value, x)) {
                        hold(y, a, without(value, x));
                    }
                }
            }
            stale = true;
        }

        /** Whether a value is an instance or has it in a place. */
        private static boolean isHolding(Value value, int x) {
            if (value.kind == Value.INSTANCE) {
                return value.bits == x;
            }
            boolean found = false;
            for (int i = 0; i < value.cells.length && value.lane == Value.INSTANCE; i++) {
                found = found || value.cells[i] == x && !value.isHole(i);
            }
            return found;
        }

        private Value without(Value value, int x) {
            if (value.kind != Value.AGGREGATE) {
                return nothing;
            }
            long[] cells = new long[value.cells.length];
            int holes = value.holes;
            int left = 0;
            for (int i = 0; i < cells.length; i++) {
                boolean gone = value.cells[i] == x && !value.isHole(i);
                if (value.sort == Value.ARRAY) {
                    holes |= gone ? 1 << i : 0;
                    cells[i] = value.cells[i];
                } else if (!gone) {
                    cells[left] = value.cells[i];
                    left++;
                }
            }
            long[] kept = value.sort == Value.ARRAY ? cells : Arrays.copyOf(cells, left);
            return new Value(value.sort, value.low, value.lane, holes, kept);
        }

        /** The set of all instances of an entity, or nothing if they are too many. */
        Value extent(int e) {
            long[] cells = new long[Value.PLACES_MOST];
            int found = 0;
            for (int x = 0; x < made; x++) {
                if (isA(x, e)) {
                    if (found < cells.length) {
                        cells[found] = x;
                    }
                    found++;
                }
            }
            return instances(Value.SET, cells, found);
        }

        private Value instances(int sort, long[] cells, int found) {
            return found > cells.length ? nothing
                : new Value(sort, 1, Value.INSTANCE, 0, Arrays.copyOf(cells, found));
        }

        /** The set of the instances whose attribute a holds x, or nothing if they are too many. */
        Value users(int x, int a) {
            long[] cells = new long[Value.PLACES_MOST];
            int found = 0;
            for (int y = 0; y < made; y++) {
                if (exists(y) && isHolding(heldBy(y, a), x)) {
                    if (found < cells.length) {
                        cells[found] = y;
                    }
                    found++;
                }
            }
            return instances(Value.SET, cells, found);
        }

        int countUsers(int x, int a) {
            int found = 0;
            for (int y = 0; y < made; y++) {
                found += exists(y) && isHolding(heldBy(y, a), x) ? 1 : 0;
            }
            return found;
        }

        /** The bag of the instances that hold x, each once for each attribute that does. */
        Value allUsers(int x) {
            long[] cells = new long[Value.PLACES_MOST];
            int found = 0;
            for (int y = 0; y < made; y++) {
                for (int a = 0; a < ATTRIBUTES && exists(y); a++) {
                    if (isHolding(heldBy(y, a), x)) {
                        if (found < cells.length) {
                            cells[found] = y;
                        }
                        found++;
                    }
                }
            }
            return instances(Value.BAG, cells, found);
        }

        /**
         * Works out which instances are alike, if they have changed: all those with one combination are taken
         * for alike at first, and those that hold what is not alike then are parted, until none has to be.
         */
        void prepare() {
            if (!stale) {
                return;
            }
            stale = false;
            for (int x = 0; x < made && x < MOST; x++) {
                likenesses[x] = x;
                for (int y = x - 1; y >= 0; y--) {
                    if (combinations[x] != 0 && combinations[y] == combinations[x]) {
                        likenesses[x] = y;
                    }
                }
            }
            boolean parted = true;
            for (int turn = 0; turn <= MOST && parted; turn++) {
                parted = part();
            }
        }

        private boolean part() {
            boolean parted = false;
            for (int x = 0; x < made && x < MOST; x++) {
                finer[x] = x;
                for (int y = 0; y < x && finer[x] == x; y++) {
                    if (finer[y] == y && likenesses[y] == likenesses[x] && holdsAlike(x, y)) {
                        finer[x] = y;
                    }
                }
                parted = parted || finer[x] != likenesses[x];
            }
            int[] coarser = likenesses;
            likenesses = finer;
            finer = coarser;
            return parted;
        }

        private boolean holdsAlike(int x, int y) {
            for (int a = 0; a < schema.counts[Schema.ATTRIBUTES]; a++) {
                if (schema.isExplicit(a) && !alike(heldBy(x, a), heldBy(y, a))) {
                    return false;
                }
            }
            return true;
        }

        /** Whether two values are alike, after prepare(). */
        boolean alike(Value a, Value b) {
            if (a.kind != Value.AGGREGATE || b.kind != Value.AGGREGATE) {
                return a.kind == Value.NOTHING && b.kind == Value.NOTHING || cellsAlike(a.kind, a.bits, b.kind, b.bits);
            }
            int size = a.cells.length;
            boolean ordered = a.sort == Value.ARRAY || a.sort == Value.LIST;
            if (a.sort != b.sort || size != b.cells.length || ordered && (a.low != b.low || a.holes != b.holes)) {
                return false;
            }
            int used = 0;
            for (int i = 0; i < size; i++) {
                boolean found = ordered && a.isHole(i);
                for (int j = ordered ? i : 0; j < size && !found && (!ordered || j == i); j++) {
                    found = (used >> j & 1) == 0 && cellsAlike(a.lane, a.cells[i], b.lane, b.cells[j]);
                    used |= found ? 1 << j : 0;
                }
                if (!found) {
                    return false;
                }
            }
            return true;
        }

        /** Whether two values that are no aggregates, given by their kinds and bits, are alike. */
        boolean cellsAlike(int kindA, long a, int kindB, long b) {
            if (kindA == Value.INTEGER && kindB == Value.REAL) {
                return Reals.isWhole(b, a);
            }
            if (kindA == Value.REAL && kindB == Value.INTEGER) {
                return Reals.isWhole(a, b);
            }
            if (kindA != kindB) {
                return false;
            }
            switch (kindA) {
                case Value.REAL:
                    return !Reals.isNan(a) && (a == b || a << 1 == 0 && b << 1 == 0);
                case Value.INSTANCE:
                    boolean known = a >= 0 && a < made && a < MOST && b >= 0 && b < made && b < MOST;
                    return a == b || known && likenesses[(int) a] == likenesses[(int) b];
                default:
                    return a == b && kindA != Value.NOTHING && kindA != Value.AGGREGATE;
            }
        }

        /** A value as it is converted for a kind. */
        Value converted(Value value, int kind) {
            if (kind < 0 || kind >= schema.kinds.length) {
                return value;
            }
            int sort = schema.kinds[kind][Schema.END_AGGREGATE];
            if (sort < 0) {
                return convertedScalar(value, kind);
            }
            if (value.kind != Value.AGGREGATE || value.sort != Value.LIST || sort == Value.LIST) {
                return value;
            }
            if (sort != Value.SET) {
                int low = sort == Value.ARRAY ? schema.kinds[kind][Schema.END_LOW] : 1;
                return new Value(sort, low, value.lane, 0, value.cells);
            }
            long[] cells = new long[value.cells.length];
            int count = 0;
            for (int i = 0; i < cells.length; i++) {
                boolean known = false;
                for (int j = 0; j < count && !known; j++) {
                    known = cellsAlike(value.lane, value.cells[i], value.lane, cells[j]);
                }
                if (!known) {
                    cells[count] = value.cells[i];
                    count++;
                }
            }
            return new Value(Value.SET, 1, value.lane, 0, Arrays.copyOf(cells, count));
        }

        /** A value as it is converted for the item of a kind, or for a kind that is no aggregate. */
        Value convertedScalar(Value value, int kind) {
            return value.kind == Value.INTEGER && schema.kindCell(kind, Schema.TO_REAL) == 1
                ? new Value(Value.REAL, Reals.toBits((double) value.bits)) : value;
        }

        /** Whether a value, converted before, fits a kind. */
        boolean fits(Value value, int kind) {
            if (value.kind == Value.NOTHING || kind < 0 || kind >= schema.kinds.length) {
                return value.kind == Value.NOTHING;
            }
            int[] cells = schema.kinds[kind];
            int sort = cells[Schema.END_AGGREGATE];
            if (sort < 0) {
                return isAccepted(cells[Schema.ACCEPTED], value.kind, value.bits);
            }
            int low = cells[Schema.END_LOW];
            int high = cells[Schema.END_HIGH];
            int size = value.cells.length;
            boolean fits = value.kind == Value.AGGREGATE && value.sort == sort;
            if (sort == Value.ARRAY) {
                fits = fits && value.low == low && (high < 0 || size == high - low + 1);
            }
            for (int i = 0; i < size && fits; i++) {
                fits = value.isHole(i) || isAccepted(cells[Schema.ACCEPTED], value.lane, value.cells[i]);
            }
            return fits;
        }

        /** Whether a value of a kind is among what an item accepts, as Schema.accepts() tells it. */
        boolean isAccepted(int accepted, int kind, long bits) {
            switch (kind) {
                case Value.NOTHING:
                    return true;
                case Value.INTEGER:
                case Value.REAL:
                case Value.LOGICAL:
                    return (accepted >> kind - 1 & 1) == 1;
                case Value.ITEM:
                    return bits >= 0 && bits < schema.itemTypes.length
                        && (accepted >> Schema.TYPE_ITEM + schema.itemTypes[(int) bits] & 1) == 1;
                case Value.INSTANCE:
                    return bits >= 0 && bits < combinations.length
                        && (accepted >> Schema.ENTITY_BIT & combinations[(int) bits]) != 0;
                default:
                    return false;
            }
        }

        boolean save() {
            if (saved) {
                return false;
            }
            saved = true;
            savedMade = made;
            System.arraycopy(combinations, 0, savedCombinations, 0, MOST);
            System.arraycopy(held, 0, savedHeld, 0, held.length);
            return true;
        }

        boolean discard() {
            boolean was = saved;
            saved = false;
            return was;
        }

        boolean restore() {
            if (!saved) {
                return false;
            }
            saved = false;
            made = savedMade;
            System.arraycopy(savedCombinations, 0, combinations, 0, MOST);
            System.arraycopy(savedHeld, 0, held, 0, held.length);
            stale = true;
            return true;
        }
    }

    /** What operators and built-in functions answer. */
    private static final class Operators {
        // the built-in functions, in the order of Schema.BUILT_IN; from COPYSIGN on they have two arguments
        private static final int ABS = 0, FLOOR = 1, CEIL = 2, RINT = 3, SIGN = 4, SIZEOF = 5, LOWINDEX = 6,
            HIGHINDEX = 7, EXISTS = 8, USEDIN = 9, ODD = 10, MIN = 12, NVL = 14;
        static final int COPYSIGN = 11;
        private static final long NO_INTEGER = 1L << 40;

        private final Population people;
        private final Value nothing;
        private final long[] room = new long[2 * Value.PLACES_MOST];

        Operators(Population people) {
            this.people = people;
            this.nothing = people.nothing;
        }

        Value integer(long result) {
            return result == (int) result ? new Value(Value.INTEGER, result) : nothing;
        }

        Value numbers(int sign, Value a, Value b) {
            if (!a.isNumber() || !b.isNumber()) {
                return nothing;
            }
            if (a.kind == Value.INTEGER && b.kind == Value.INTEGER && sign != Tokens.SLASH) {
                return wholes(sign, a.bits, b.bits);
            }
            long x = Reals.of(a);
            long y = Reals.of(b);
            switch (sign) {
                case Tokens.PLUS: return new Value(Value.REAL, Reals.plus(x, y));
                case Tokens.MINUS: return new Value(Value.REAL, Reals.plus(x, Reals.negative(y)));
                case Tokens.TIMES: return new Value(Value.REAL, Reals.times(x, y));
                case Tokens.SLASH: return new Value(Value.REAL, Reals.over(x, y));
                default: return nothing;
            }
        }

        private Value wholes(int sign, long a, long b) {
            long result = NO_INTEGER;
            switch (sign) {
                case Tokens.PLUS:
                    result = a + b;
                    break;
                case Tokens.MINUS:
                    result = a - b;
                    break;
                case Tokens.TIMES:
                    result = a * b;
                    break;
                case Tokens.DIV:
                    result = b == 0 ? NO_INTEGER : a / b;
                    break;
                case Tokens.MOD:
                    result = b == 0 ? NO_INTEGER : a % b;
                    break;
                default:
                    break;
            }
            return result == (int) result ? new Value(Value.INTEGER, result) : nothing;
        }

        /** Joins two aggregates: + of lists, bags and sets, * and - of sets. */
        Value places(int sign, Value a, Value b) {
            boolean plus = sign == Tokens.PLUS;
            boolean ofSets = plus || sign == Tokens.TIMES || sign == Tokens.MINUS;
            if (a.sort != b.sort || a.sort == Value.ARRAY || !(a.sort == Value.SET ? ofSets : plus)) {
                return nothing;
            }
            if (plus && a.lane != 0 && b.lane != 0 && a.lane != b.lane) {
                return nothing;
            }
            int count = 0;
            for (int i = 0; i < a.cells.length && count < room.length; i++) {
                if (plus || isIn(a.lane, a.cells[i], b) == (sign == Tokens.TIMES)) {
                    room[count] = a.cells[i];
                    count++;
                }
            }
            for (int i = 0; i < b.cells.length && plus && count < room.length; i++) {
                if (a.sort != Value.SET || !isIn(b.lane, b.cells[i], a)) {
                    room[count] = b.cells[i];
                    count++;
                }
            }
            int lane = plus && a.lane == 0 ? b.lane : a.lane;
            return count > Value.PLACES_MOST ? nothing
                : new Value(a.sort, 1, lane, 0, Arrays.copyOf(room, count));
        }

        /** Whether some place of an aggregate is alike to a value that is none. */
        private boolean isIn(int kind, long bits, Value aggregate) {
            boolean found = false;
            for (int i = 0; i < aggregate.cells.length && !found; i++) {
                found = !aggregate.isHole(i) && people.cellsAlike(kind, bits, aggregate.lane, aggregate.cells[i]);
            }
            return found;
        }

        private static Value truth(boolean holds) {
            return new Value(Value.LOGICAL, holds ? Value.TRUE : Value.FALSE);
        }

        Value logic(int sign, Value a, Value b) {
            long x = a.kind == Value.NOTHING ? Value.UNKNOWN : a.bits;
            long y = b.kind == Value.NOTHING ? Value.UNKNOWN : b.bits;
            if (a.kind != Value.NOTHING && a.kind != Value.LOGICAL
                || b.kind != Value.NOTHING && b.kind != Value.LOGICAL) {
                return nothing;
            }
            if (sign == Tokens.AND) {
                return new Value(Value.LOGICAL, Math.min(x, y));
            }
            if (sign == Tokens.OR) {
                return new Value(Value.LOGICAL, Math.max(x, y));
            }
            boolean open = x == Value.UNKNOWN || y == Value.UNKNOWN;
            return open ? new Value(Value.LOGICAL, Value.UNKNOWN) : truth(x != y);
        }

        Value inverted(Value a) {
            if (a.kind == Value.NOTHING) {
                return new Value(Value.LOGICAL, Value.UNKNOWN);
            }
            return a.kind == Value.LOGICAL ? new Value(Value.LOGICAL, 2 - a.bits) : nothing;
        }

        Value negated(Value a) {
            if (a.kind == Value.INTEGER) {
                return integer(-a.bits);
            }
            return a.kind == Value.REAL ? new Value(Value.REAL, Reals.negative(a.bits)) : nothing;
        }

        Value compared(int sign, Value a, Value b) {
            if (a.kind == Value.NOTHING || b.kind == Value.NOTHING) {
                return new Value(Value.LOGICAL, Value.UNKNOWN);
            }
            if (sign == Tokens.IN) {
                return b.kind == Value.AGGREGATE ? truth(isIn(a.kind, a.bits, b)) : nothing;
            }
            if (a.kind != b.kind && !(a.isNumber() && b.isNumber())) {
                return nothing;
            }
            if (sign <= Tokens.GREATER_EQUAL) {
                return ordered(sign, a, b);
            }
            if (a.kind == Value.LOGICAL && (a.bits == Value.UNKNOWN || b.bits == Value.UNKNOWN)) {
                return new Value(Value.LOGICAL, Value.UNKNOWN);
            }
            boolean same = sign == Tokens.SAME && a.kind == Value.INSTANCE ? a.bits == b.bits : people.alike(a, b);
            return truth(same == (sign != Tokens.UNEQUAL));
        }

        /** Compares two values of one kind, or two numbers, by < <= > >=. */
        private Value ordered(int sign, Value a, Value b) {
            boolean less = a.bits < b.bits;
            boolean greater = a.bits > b.bits;
            if (a.kind == Value.REAL || b.kind == Value.REAL) {
                if (a.kind == Value.REAL && Reals.isNan(a.bits) || b.kind == Value.REAL && Reals.isNan(b.bits)) {
                    return truth(false);
                }
                double x = a.kind == Value.REAL ? Reals.toDouble(a.bits) : (double) a.bits;
                double y = b.kind == Value.REAL ? Reals.toDouble(b.bits) : (double) b.bits;
                less = x < y;
                greater = x > y;
            } else if (a.kind == Value.ITEM) {
                if (people.schema.typeOfItem((int) a.bits) != people.schema.typeOfItem((int) b.bits)) {
                    return nothing;
                }
            } else if (a.kind != Value.INTEGER && a.kind != Value.LOGICAL) {
                return nothing;
            }
            switch (sign) {
                case Tokens.LESS: return truth(less);
                case Tokens.LESS_EQUAL: return truth(!greater);
                case Tokens.GREATER: return truth(greater);
                default: return truth(!less);
            }
        }

        Value placeOf(Value aggregate, Value index) {
            if (aggregate.kind != Value.AGGREGATE || index.kind != Value.INTEGER) {
                return nothing;
            }
            long at = index.bits - aggregate.low;
            if (at < 0 || at >= aggregate.cells.length) {
                return nothing;
            }
            int kind = aggregate.kindAt((int) at);
            return kind == Value.NOTHING ? nothing : new Value(kind, aggregate.bitsAt((int) at));
        }

        /** An aggregate of a kind with a value put into a place; nothing if that is not possible. */
        Value withPlace(Value old, Value index, Value given, int kind) {
            if (old.kind != Value.AGGREGATE || index.kind != Value.INTEGER) {
                return nothing;
            }
            long place = index.bits - old.low;
            int accepted = people.schema.kindCell(kind, Schema.ACCEPTED);
            Value value = people.convertedScalar(given, kind);
            if (place < 0 || place >= old.cells.length || !people.isAccepted(accepted, value.kind, value.bits)) {
                return nothing;
            }
            int at = (int) place;
            if (value.kind == Value.NOTHING) {
                return old.sort != Value.ARRAY ? nothing
                    : new Value(old.sort, old.low, old.lane, old.holes | 1 << at, old.cells);
            }
            if (old.lane != 0 && old.lane != value.kind) {
                return nothing;
            }
            for (int i = 0; i < old.cells.length && old.sort == Value.SET; i++) {
                if (i != at && people.cellsAlike(value.kind, value.bits, old.kindAt(i), old.cells[i])) {
                    return nothing;
                }
            }
            long[] cells = old.cells.clone();
            cells[at] = value.bits;
            return new Value(old.sort, old.low, value.kind, old.holes & ~(1 << at), cells);
        }

        /** Answers a built-in function. */
        Value builtIn(int function, Value a, Value b) {
            switch (function) {
                case ABS: return a.kind == Value.INTEGER ? integer(Math.abs(a.bits)) : realOf(a, Reals.size(a.bits));
                case FLOOR: return rounded(a, -1);
                case CEIL: return rounded(a, 1);
                case RINT: return rounded(a, 0);
                case SIGN:
                    return a.kind == Value.INTEGER ? integer(Long.compare(a.bits, 0)) : realOf(a, Reals.signOf(a.bits));
                case SIZEOF: return measure(a, a.cells.length);
                case LOWINDEX: return measure(a, a.low);
                case HIGHINDEX: return measure(a, a.low + a.cells.length - 1);
                case EXISTS: return truth(a.kind != Value.NOTHING);
                case USEDIN: return a.kind == Value.INSTANCE ? people.allUsers((int) a.bits) : nothing;
                case ODD: return a.kind == Value.INTEGER ? truth((a.bits & 1) == 1) : nothing;
                case NVL: return a.kind == Value.NOTHING ? b : a;
                default: return ofNumbers(function, a, b);
            }
        }

        private Value realOf(Value a, long bits) {
            return a.kind == Value.REAL ? new Value(Value.REAL, bits) : nothing;
        }

        private Value rounded(Value a, int direction) {
            return a.isNumber() ? new Value(Value.REAL, Reals.rounded(Reals.of(a), direction)) : nothing;
        }

        private Value measure(Value a, int number) {
            return a.kind == Value.AGGREGATE ? new Value(Value.INTEGER, number) : nothing;
        }

        private Value ofNumbers(int function, Value a, Value b) {
            if (!a.isNumber() || !b.isNumber()) {
                return nothing;
            }
            long x = Reals.of(a);
            long y = Reals.of(b);
            if (function == COPYSIGN) {
                return new Value(Value.REAL, Reals.signed(x, y));
            }
            boolean least = function == MIN;
            if (a.kind == Value.INTEGER && b.kind == Value.INTEGER) {
                return new Value(Value.INTEGER, least ? Math.min(a.bits, b.bits) : Math.max(a.bits, b.bits));
            }
            return new Value(Value.REAL, Reals.extreme(x, y, least ? -1 : 1));
        }
    }

    /** Carries out the code of expressions and functions, with its frames on stacks of its own. */
    private static final class Machine {
        // code words that push a value (or count steps), and how many words follow them
        static final int STEP = 1, NOTHING = 2, INTEGER = 3, REAL = 4, LOGICAL = 5, ITEM = 6, INSTANCE = 7,
            ENTITY = 8, SELF = 9, LOCAL = 10;
        // code words that work on the values on top
        static final int GET = 11, INDEX = 12, ARITHMETIC = 13, LOGIC = 14, COMPARE = 15, NEGATE = 16,
            INVERT = 17, LIST = 18, BUILT_IN = 19;
        // code words that lead somewhere else
        static final int CALL = 20, QUERY = 21, NEXT = 22, TEST = 23, STORE = 24, STORE_AT = 25, JUMP = 26,
            UNLESS = 27, REPEAT = 28, ADVANCE = 29, TURN = 30, RETURN = 31, LEAVE = 32;
        private static final int FRAMES_MOST = 8, SLOTS = 32, IN_ALL_MOST = 20000;

        private final Population people;
        private final Operators operators;
        private final Value nothing;
        /** A run has at most 1000 steps, and a step pushes at most two values. */
        private final Value[] stack = new Value[4096];
        private int top;
        private final Value[] locals = new Value[FRAMES_MOST * SLOTS];
        /** For a query its aggregate; its next place and its chosen ones, or a repeat's whole, end and step. */
        private final Value[] subjects = new Value[FRAMES_MOST * SLOTS];
        private final int[] positions = new int[FRAMES_MOST * SLOTS];
        private final int[] ends = new int[FRAMES_MOST * SLOTS];
        private final int[] strides = new int[FRAMES_MOST * SLOTS];
        private int frames;
        private final int[] returns = new int[FRAMES_MOST];
        private final int[] results = new int[FRAMES_MOST];
        private final int[] floors = new int[FRAMES_MOST];
        private final Value[] selves = new Value[FRAMES_MOST];
        private int at;
        boolean spent;
        int limit = 1000;
        int made;
        int madeInAll;

        Machine(Population people) {
            this.people = people;
            this.operators = new Operators(people);
            this.nothing = people.nothing;
            for (int i = 0; i < stack.length; i++) {
                stack[i] = nothing;
            }
            for (int i = 0; i < locals.length; i++) {
                locals[i] = nothing;
                subjects[i] = nothing;
            }
            for (int i = 0; i < selves.length; i++) {
                selves[i] = nothing;
            }
        }

        /** One run: carries out the code from a place on; nothing is its result, too, if it is spent. */
        Value run(int start, Value self) {
            made = 0;
            spent = false;
            top = 0;
            frames = 0;
            openFrame(start, NONE, self);
            for (int n = 0; n < MANY && frames > 0 && !spent; n++) {
                int word = fetch();
                if (word <= LOCAL) {
                    plain(word);
                } else if (word <= BUILT_IN) {
                    operate(word);
                } else {
                    lead(word);
                }
            }
            return spent ? nothing : pop();
        }

        private int fetch() {
            int[] code = people.schema.code;
            int word = at >= 0 && at < code.length ? code[at] : LEAVE;
            at++;
            return word;
        }

        private void push(Value value) {
            if (top >= 0 && top < stack.length) {
                stack[top] = value;
                top++;
            }
        }

        private Value pop() {
            top -= top > 0 ? 1 : 0;
            return top < stack.length ? stack[top] : nothing;
        }

        private Value below(int depth) {
            int i = top - 1 - depth;
            return i >= 0 && i < stack.length ? stack[i] : nothing;
        }

        private void step(int count) {
            int left = Math.min(limit - made, IN_ALL_MOST - madeInAll);
            spent = count > left;
            made += spent ? left : count;
            madeInAll += spent ? left : count;
        }

        /** Opens a frame that starts at a place; its result has to fit a kind, if one is given. */
        private void openFrame(int start, int kind, Value self) {
            if (frames >= FRAMES_MOST) {
                spent = true;
                return;
            }
            returns[frames] = at;
            results[frames] = kind;
            floors[frames] = top;
            selves[frames] = self;
            for (int i = 0; i < SLOTS; i++) {
                locals[frames * SLOTS + i] = nothing;
            }
            frames++;
            at = start;
        }

        /** Closes the frame with a result, if that fits what the frame is opened for. */
        private void closeFrame(Value result) {
            int kind = frames > 0 ? results[frames - 1] : NONE;
            Value value = kind < 0 ? result : people.converted(result, kind);
            endFrame(kind < 0 || people.fits(value, kind) ? value : nothing);
        }

        private void endFrame(Value result) {
            if (frames > 0) {
                frames--;
                top = floors[frames];
                at = returns[frames];
                push(result);
            }
        }

        /** Where a slot of the open frame is; always an index of the tables of slots. */
        private int slotAt(int slot) {
            return frames > 0 && slot >= 0 && slot < SLOTS ? (frames - 1) * SLOTS + slot : 0;
        }

        private void plain(int word) {
            switch (word) {
                case STEP:
                    step(fetch());
                    break;
                case INTEGER:
                    push(new Value(Value.INTEGER, fetch()));
                    break;
                case REAL:
                    long upper = (long) fetch() << 32;
                    push(new Value(Value.REAL, upper | fetch() & 0xffffffffL));
                    break;
                case LOGICAL:
                    push(new Value(Value.LOGICAL, fetch()));
                    break;
                case ITEM:
                    push(new Value(Value.ITEM, fetch()));
                    break;
                case INSTANCE:
                    int x = fetch();
                    push(people.exists(x) ? new Value(Value.INSTANCE, x) : nothing);
                    break;
                case ENTITY:
                    push(people.extent(fetch()));
                    break;
                case SELF:
                    push(frames > 0 ? selves[frames - 1] : nothing);
                    break;
                case LOCAL:
                    push(locals[slotAt(fetch())]);
                    break;
                default:
                    push(nothing);
                    break;
            }
        }

        private void operate(int word) {
            switch (word) {
                case GET:
                    access(fetch());
                    break;
                case LIST:
                    list(fetch());
                    break;
                case NEGATE:
                    push(operators.negated(pop()));
                    break;
                case INVERT:
                    push(operators.inverted(pop()));
                    break;
                case BUILT_IN:
                    int function = fetch();
                    Value second = function < Operators.COPYSIGN ? nothing : pop();
                    push(operators.builtIn(function, pop(), second));
                    break;
                case INDEX:
                    Value index = pop();
                    push(operators.placeOf(pop(), index));
                    break;
                case LOGIC:
                    int sign = fetch();
                    Value right = pop();
                    push(operators.logic(sign, pop(), right));
                    break;
                case COMPARE:
                    sign = fetch();
                    right = pop();
                    push(operators.compared(sign, pop(), right));
                    break;
                default:
                    sign = fetch();
                    right = pop();
                    Value left = pop();
                    boolean aggregates = left.kind == Value.AGGREGATE && right.kind == Value.AGGREGATE;
                    push(aggregates ? operators.places(sign, left, right) : operators.numbers(sign, left, right));
                    break;
            }
        }

        /** Gets an attribute of the instance on top. */
        private void access(int a) {
            Value of = pop();
            if (of.kind != Value.INSTANCE || !people.has((int) of.bits, a)) {
                push(nothing);
                return;
            }
            int x = (int) of.bits;
            int[] cells = people.schema.attributes[a];
            if (cells[Schema.SORT] == Schema.EXPLICIT_SORT) {
                push(people.heldBy(x, a));
            } else if (cells[Schema.SORT] == Schema.DERIVED_SORT) {
                openFrame(cells[Schema.CODE], cells[Schema.KIND], of);
            } else {
                push(people.users(x, cells[Schema.FOR]));
            }
        }

        /** Makes a list of the values on top, each of which has its number above it. */
        private void list(int given) {
            long[] cells = new long[Value.PLACES_MOST];
            int lane = 0;
            int count = 0;
            boolean sound = true;
            for (int i = given - 1; i >= 0; i--) {
                Value number = below(2 * i);
                Value value = below(2 * i + 1);
                sound = sound && number.kind == Value.INTEGER && number.bits >= 0;
                if (sound && number.bits > 0) {
                    sound = value.kind != Value.NOTHING && value.kind != Value.AGGREGATE
                        && (lane == 0 || lane == value.kind) && number.bits <= cells.length - count;
                    lane = value.kind;
                    for (long n = 0; sound && n < number.bits && count < cells.length; n++) {
                        cells[count] = value.bits;
                        count++;
                    }
                }
            }
            top = Math.max(0, top - 2 * given);
            push(sound ? new Value(Value.LIST, 1, lane, 0, Arrays.copyOf(cells, count)) : nothing);
        }

        private void lead(int word) {
            switch (word) {
                case CALL:
                    call(fetch());
                    break;
                case QUERY:
                    startQuery(slotAt(fetch()), fetch());
                    break;
                case NEXT:
                    continueQuery(slotAt(fetch()), fetch());
                    break;
                case TEST:
                    int slot = slotAt(fetch());
                    at = fetch();
                    ends[slot] |= pop().isTrue() ? 1 << positions[slot] - 1 : 0;
                    break;
                case STORE:
                    store(slotAt(fetch()), fetch());
                    break;
                case STORE_AT:
                    storeAt(slotAt(fetch()), fetch());
                    break;
                case JUMP:
                    at = fetch();
                    break;
                case UNLESS:
                    int target = fetch();
                    at = pop().isTrue() ? at : target;
                    break;
                case RETURN:
                    closeFrame(pop());
                    break;
                case LEAVE:
                    endFrame(nothing);
                    break;
                default:
                    repeat(word, slotAt(fetch()));
                    break;
            }
        }

        /** Calls a function with the arguments on top, if each one fits its parameter. */
        private void call(int f) {
            if (f < 0 || f >= people.schema.functions.length) {
                push(nothing);
                return;
            }
            int[] cells = people.schema.functions[f];
            int given = cells[Schema.PARAMETERS];
            boolean fit = true;
            for (int i = 0; i < given; i++) {
                int place = top - given + i;
                int kind = cells[Schema.LOCAL_KINDS + i];
                if (place >= 0 && place < stack.length) {
                    stack[place] = people.converted(stack[place], kind);
                    fit = fit && people.fits(stack[place], kind);
                }
            }
            top = Math.max(0, top - given);
            if (!fit) {
                push(nothing);
                return;
            }
            openFrame(cells[Schema.START], cells[Schema.RESULT], nothing);
            for (int i = 0; i < given && !spent && top + i < stack.length; i++) {
                locals[slotAt(i)] = stack[top + i];
            }
        }

        private void startQuery(int slot, int exit) {
            Value aggregate = pop();
            if (aggregate.kind != Value.AGGREGATE) {
                push(nothing);
                at = exit;
                return;
            }
            subjects[slot] = aggregate;
            positions[slot] = 0;
            ends[slot] = 0;
        }

        /** Goes to the next place with a value; behind the last one, the query has its result. */
        private void continueQuery(int slot, int exit) {
            Value aggregate = subjects[slot];
            int i = aggregate.filledFrom(positions[slot]);
            if (i < aggregate.cells.length) {
                positions[slot] = i + 1;
                locals[slot] = new Value(aggregate.lane, aggregate.cells[i]);
                return;
            }
            long[] cells = new long[Integer.bitCount(ends[slot])];
            int count = 0;
            for (int j = 0; j < aggregate.cells.length && count < cells.length; j++) {
                if ((ends[slot] >> j & 1) == 1) {
                    cells[count] = aggregate.cells[j];
                    count++;
                }
            }
            int sort = aggregate.sort == Value.ARRAY ? Value.LIST : aggregate.sort;
            push(new Value(sort, 1, aggregate.lane, 0, cells));
            at = exit;
        }

        private void store(int slot, int kind) {
            Value value = people.converted(pop(), kind);
            if (people.fits(value, kind)) {
                locals[slot] = value;
            } else {
                endFrame(nothing);
            }
        }

        private void storeAt(int slot, int kind) {
            Value value = pop();
            Value changed = operators.withPlace(locals[slot], pop(), value, kind);
            if (changed.kind == Value.AGGREGATE) {
                locals[slot] = changed;
            } else {
                endFrame(nothing);
            }
        }

        private void repeat(int word, int slot) {
            if (word == REPEAT) {
                startRepeat(slot);
                return;
            }
            int exit = fetch();
            if (word == ADVANCE) {
                long next = (long) positions[slot] + strides[slot];
                positions[slot] = (int) next;
                at = next == (int) next ? at : exit;
            } else if (strides[slot] > 0 ? positions[slot] > ends[slot] : positions[slot] < ends[slot]) {
                at = exit;
            } else {
                step(1);
                locals[slot] = new Value(Value.INTEGER, positions[slot]);
            }
        }

        private void startRepeat(int slot) {
            Value by = pop();
            Value to = pop();
            Value from = pop();
            boolean whole = from.kind == Value.INTEGER && to.kind == Value.INTEGER && by.kind == Value.INTEGER;
            if (!whole || by.bits == 0) {
                endFrame(nothing);
                return;
            }
            positions[slot] = (int) from.bits;
            ends[slot] = (int) to.bits;
            strides[slot] = (int) by.bits;
        }
    }

    /** Checks the rules of the schema. */
    private static final class Judge {
        private static final int FALSE = 0, TRUE = 1, UNKNOWN = 2, OPEN = 3;

        private final Population people;
        private final Machine machine;
        final int[] instances = new int[Population.MOST];
        final int[] verdicts = new int[Population.MOST];
        /** How many instances had another verdict than true. */
        int noted;
        private int verdict;

        Judge(Population people, Machine machine) {
            this.people = people;
            this.machine = machine;
        }

        void clear() {
            noted = 0;
            verdict = TRUE;
        }

        private void note(int x, int found) {
            verdict = worse(verdict, found);
            if (found != TRUE && noted < instances.length) {
                instances[noted] = x;
                verdicts[noted] = found;
                noted++;
            }
        }

        private static int worse(int a, int b) {
            return rank(a) < rank(b) ? a : b;
        }

        private static int rank(int found) {
            switch (found) {
                case FALSE: return 0;
                case OPEN: return 1;
                case UNKNOWN: return 2;
                default: return 3;
            }
        }

        int judgeBounds(int e) {
            clear();
            for (int x = 0; x < people.made; x++) {
                if (people.isA(x, e)) {
                    note(x, isBounded(x, e) ? TRUE : FALSE);
                }
            }
            return verdict;
        }

        private boolean isBounded(int x, int e) {
            for (int a = 0; a < people.schema.counts[Schema.ATTRIBUTES]; a++) {
                int[] cells = people.schema.attributes[a];
                int sort = cells[Schema.SORT];
                if (cells[Schema.ENTITY] == e && sort == Schema.INVERSE_SORT
                    && !isWithin(people.countUsers(x, cells[Schema.FOR]), cells[Schema.KIND])) {
                    return false;
                }
                if (cells[Schema.ENTITY] == e && sort == Schema.EXPLICIT_SORT
                    && !isHeldWithin(people.heldBy(x, a), cells)) {
                    return false;
                }
            }
            return true;
        }

        /** Whether an explicit attribute, given by its cells, may hold a value. */
        private boolean isHeldWithin(Value value, int[] cells) {
            if (value.kind == Value.NOTHING) {
                return cells[Schema.OPTIONAL] == 1;
            }
            return value.kind != Value.AGGREGATE || value.sort == Value.ARRAY
                || isWithin(value.cells.length, cells[Schema.KIND]);
        }

        private boolean isWithin(int number, int kind) {
            int high = people.schema.kindCell(kind, Schema.END_HIGH);
            return number >= people.schema.kindCell(kind, Schema.END_LOW) && (high < 0 || number <= high);
        }

        int judgeUnique(int e) {
            clear();
            for (int x = 0; x < people.made; x++) {
                if (people.isA(x, e)) {
                    note(x, isUnique(x, e) ? TRUE : FALSE);
                }
            }
            return verdict;
        }

        private boolean isUnique(int x, int e) {
            for (int y = 0; y < x; y++) {
                for (int i = 0; i < people.schema.entities[e][Schema.UNIQUES] && people.isA(y, e); i++) {
                    if (areAlike(x, y, people.schema.uniques[e * Schema.UNIQUES_MOST + i])) {
                        return false;
                    }
                }
            }
            return true;
        }

        /** Whether all of some attributes of two instances are alike, and none is nothing. */
        private boolean areAlike(int x, int y, long attributes) {
            for (int a = 0; a < people.schema.counts[Schema.ATTRIBUTES]; a++) {
                if ((attributes >> a & 1) == 1) {
                    Value value = people.heldBy(x, a);
                    if (value.kind == Value.NOTHING || !people.alike(value, people.heldBy(y, a))) {
                        return false;
                    }
                }
            }
            return true;
        }

        int judgeEntity(int e) {
            clear();
            for (int x = 0; x < people.made; x++) {
                int found = TRUE;
                for (int i = 0; i < people.schema.wheres[e] && people.isA(x, e); i++) {
                    Value value = machine.run(people.schema.startOfWhere(e, i), new Value(Value.INSTANCE, x));
                    found = worse(found, verdictOf(value));
                }
                note(x, found);
            }
            return verdict;
        }

        int judgeType(int t) {
            clear();
            for (int x = 0; x < people.made; x++) {
                int found = TRUE;
                for (int a = 0; a < people.schema.counts[Schema.ATTRIBUTES]; a++) {
                    Value held = people.heldBy(x, a);
                    boolean concerned = people.has(x, a) && isJust(a, t) && held.kind != Value.NOTHING;
                    for (int i = 0; i < people.schema.wheres[Schema.TYPE_SITE + t] && concerned; i++) {
                        Value value = machine.run(people.schema.startOfWhere(Schema.TYPE_SITE + t, i), held);
                        found = worse(found, verdictOf(value));
                    }
                }
                note(x, found);
            }
            return verdict;
        }

        /** Whether an attribute is an explicit one whose kind is just the name of a type. */
        private boolean isJust(int a, int t) {
            int kind = people.schema.attributes[a][Schema.KIND];
            return people.schema.isExplicit(a) && people.schema.kindCell(kind, Schema.AGGREGATE) < 0
                && people.schema.kindCell(kind, Schema.ITEM) == Schema.TYPE_ITEM + t;
        }

        int judgeText(int r) {
            clear();
            int found = TRUE;
            for (int i = 0; i < people.schema.wheres[Schema.RULE_SITE + r]; i++) {
                Value value = machine.run(people.schema.startOfWhere(Schema.RULE_SITE + r, i), people.nothing);
                found = worse(found, verdictOf(value));
            }
            note(NONE, found);
            return verdict;
        }

        /** The verdict of an expression by the result of its run, which has just ended. */
        private int verdictOf(Value result) {
            if (machine.spent) {
                return OPEN;
            }
            if (result.kind != Value.LOGICAL || result.bits == Value.UNKNOWN) {
                return UNKNOWN;
            }
            return result.isTrue() ? TRUE : FALSE;
        }
    }

    /** Reads files: once for their form, and once more for their sense and their values. */
    private static final class FileReader {
        private static final int WRONG_FORM = 1, WRONG_SENSE = 2, ENTRIES_MOST = 440, DIGITS_MOST = 4;

        private final Population people;
        private final Tokens tokens;
        private byte[] text = {};
        private int length;
        private int at;
        /** Whether this is the second reading. */
        private boolean sensing;
        int fault;
        private int faultPlace;
        private final int[] numbers = new int[ENTRIES_MOST];
        private final int[] combinations = new int[ENTRIES_MOST];
        /** Whether all names of the forms are entities, and none occurs twice. */
        private final boolean[] sound = new boolean[ENTRIES_MOST];
        private int entries;
        private int entry;
        private int named;
        private int kind;
        private long bits;
        private final long[] cells = new long[Value.PLACES_MOST];
        private final int[] toldNumbers = new int[Population.MOST];
        private int toldCount;
        private int toldFirst;

        FileReader(Population people, Tokens tokens) {
            this.people = people;
            this.tokens = tokens;
        }

        void forget() {
            toldCount = 0;
        }

        /** The number of the instance of an entry of the latest file. */
        int instanceOf(int n) {
            for (int i = 0; i < toldCount && i < toldNumbers.length; i++) {
                if (toldNumbers[i] == n) {
                    return toldFirst + i;
                }
            }
            return NONE;
        }

        void start(byte[] bytes, int size) {
            text = bytes;
            length = size;
            fault = 0;
            entries = 0;
        }

        void startReading(boolean forSense) {
            sensing = forSense;
            at = 0;
            entry = 0;
            for (int i = 0; i < entries && sensing; i++) {
                people.announce(people.made + i, combinations[i]);
            }
            blanks();
        }

        boolean goesOn() {
            return fault == 0 && at < length;
        }

        /** Takes up the instances of the file; returns how many they are, or its fault. */
        int finish() {
            if (fault != 0) {
                return -10 - faultPlace;
            }
            toldFirst = people.made;
            toldCount = entries;
            System.arraycopy(numbers, 0, toldNumbers, 0, Math.min(entries, toldNumbers.length));
            people.addAll(entries);
            return entries;
        }

        private int peek() {
            return at >= 0 && at < length && at < text.length ? text[at] & 255 : -1;
        }

        private void blanks() {
            for (int n = 0; n < length && Tokens.isBlank(peek()); n++) {
                at++;
            }
        }

        private void fail(int number, int place) {
            if (fault == 0) {
                fault = number;
                faultPlace = place;
            }
        }

        private void expect(int c) {
            if (peek() != c) {
                fail(WRONG_FORM, at);
            } else if (fault == 0) {
                at++;
            }
        }

        /** As expect(), with blanks before and behind. */
        private void sign(int c) {
            blanks();
            if (peek() != c) {
                fail(WRONG_FORM, at);
            } else if (fault == 0) {
                at++;
            }
            blanks();
        }

        void entryPart() {
            int place = at;
            int n = reference();
            if (sensing) {
                checkEntry(place, n);
            } else {
                addEntry(n);
            }
            named = 0;
            sign('=');
            if (peek() == '(') {
                sign('(');
                form(false);
                for (int turn = 0; turn < length && fault == 0 && peek() != ')'; turn++) {
                    form(false);
                }
                sign(')');
            } else {
                form(true);
            }
            sign(';');
            entry++;
        }

        /** Reads "#" and a number. */
        private int reference() {
            expect('#');
            int first = at;
            int n = 0;
            for (int i = 0; i < length && fault == 0 && Tokens.isDigit(peek()); i++) {
                n = at - first < DIGITS_MOST ? n * 10 + peek() - '0' : n;
                at++;
            }
            if (at == first) {
                fail(WRONG_FORM, at);
            } else if (at - first > DIGITS_MOST) {
                fail(WRONG_FORM, first);
            }
            return n;
        }

        private void addEntry(int n) {
            if (fault == 0 && entries < ENTRIES_MOST) {
                numbers[entries] = n;
                combinations[entries] = 0;
                sound[entries] = true;
                entries++;
            }
        }

        private void checkEntry(int place, int n) {
            if (entry >= entries || entry >= ENTRIES_MOST) {
                return;
            }
            boolean allowed = !sound[entry] || people.schema.reason(combinations[entry]) == 0;
            if (entryOf(n) < entry || !allowed || people.made + entry >= Population.MOST) {
                fail(WRONG_SENSE, place);
            }
            people.empty(people.made + entry);
        }

        /** The first entry with this number, or NONE. */
        private int entryOf(int n) {
            for (int i = 0; i < entries && i < ENTRIES_MOST; i++) {
                if (numbers[i] == n) {
                    return i;
                }
            }
            return NONE;
        }

        /** Reads a name; whether it has an end is for others to see. A keyword could only go on as a longer word. */
        private long word() {
            long code = 0;
            if (!Tokens.isLetter(peek())) {
                fail(WRONG_FORM, at);
            }
            for (int n = 0; n < Tokens.NAME_MOST && fault == 0 && Tokens.digitOf(peek()) > 0; n++) {
                code = code * 38 + Tokens.digitOf(peek());
                at++;
            }
            if (tokens.kindOfWord(code) != Tokens.NAME) {
                fail(WRONG_FORM, at);
            }
            return code;
        }

        private void form(boolean alone) {
            int place = at;
            int e = people.schema.find(Schema.ENTITIES, word());
            int own = e < 0 ? 0 : 1 << e;
            boolean fine = e >= 0 && (named & own) == 0;
            int all = alone && e >= 0 ? own | people.schema.entities[e][Schema.ABOVE] : own;
            named |= own;
            if (sensing && !fine) {
                fail(WRONG_SENSE, place);
            } else if (entry < ENTRIES_MOST && !sensing) {
                sound[entry] = sound[entry] && fine;
                combinations[entry] |= all;
            }
            sign('(');
            int a = people.schema.explicitFrom(0, all);
            boolean tooMany = false;
            for (int n = 0; n < length && fault == 0 && (n > 0 ? peek() == ',' : peek() != ')'); n++) {
                if (n > 0) {
                    sign(',');
                }
                valuePart(a);
                tooMany = tooMany || a < 0;
                a = people.schema.explicitFrom(a + 1, a < 0 ? 0 : all);
                blanks();
            }
            if (sensing && peek() == ')' && (tooMany || a >= 0)) {
                fail(WRONG_SENSE, at);
            }
            sign(')');
        }

        /** Reads a value for an attribute, or for none if there are too many values. */
        private void valuePart(int a) {
            int place = at;
            if (peek() != '(') {
                scalar();
                if (sensing && fault == 0 && a >= 0) {
                    int wanted = people.schema.attributes[a][Schema.KIND];
                    holdOrFail(place, a, people.convertedScalar(new Value(kind, bits), wanted), wanted);
                }
                return;
            }
            sign('(');
            int count = 0;
            int lane = 0;
            int holes = 0;
            boolean mixed = false;
            for (int n = 0; n < length && fault == 0 && (n > 0 ? peek() == ',' : peek() != ')'); n++) {
                if (n > 0) {
                    sign(',');
                }
                scalar();
                mixed = mixed || kind != Value.NOTHING && lane != 0 && lane != kind;
                lane = kind == Value.NOTHING ? lane : kind;
                if (count < cells.length) {
                    cells[count] = bits;
                    holes |= kind == Value.NOTHING ? 1 << count : 0;
                }
                count++;
                blanks();
            }
            expect(')');
            if (sensing && fault == 0 && a >= 0) {
                if (mixed || count > cells.length) {
                    fail(WRONG_SENSE, place);
                } else {
                    holdAggregate(place, a, lane, holes, Arrays.copyOf(cells, count));
                }
            }
        }

        private void holdAggregate(int place, int a, int lane, int holes, long[] values) {
            int wanted = people.schema.attributes[a][Schema.KIND];
            int sort = people.schema.kindCell(wanted, Schema.END_AGGREGATE);
            if (sort < 0 || holes != 0 && sort != Value.ARRAY || sort == Value.SET && isRepeating(lane, values)) {
                fail(WRONG_SENSE, place);
                return;
            }
            int low = sort == Value.ARRAY ? people.schema.kindCell(wanted, Schema.END_LOW) : 1;
            holdOrFail(place, a, new Value(sort, low, lane, holes, values), wanted);
        }

        private boolean isRepeating(int lane, long[] values) {
            boolean repeating = false;
            for (int i = 0; i < values.length; i++) {
                for (int j = 0; j < i; j++) {
                    boolean same = lane == Value.INSTANCE ? values[i] == values[j]
                        : people.cellsAlike(lane, values[i], lane, values[j]);
                    repeating = repeating || same;
                }
            }
            return repeating;
        }

        private void holdOrFail(int place, int a, Value value, int wanted) {
            if (people.fits(value, wanted)) {
                people.hold(people.made + entry, a, value);
            } else {
                fail(WRONG_SENSE, place);
            }
        }

        /** Reads a value that is no aggregate. */
        private void scalar() {
            int c = peek();
            kind = Value.NOTHING;
            bits = 0;
            if (c == '$') {
                at++;
            } else if (c == '%') {
                hexadecimal();
            } else if (c == '.') {
                itemOrLogical();
            } else if (c == '#') {
                int place = at;
                int i = entryOf(reference());
                kind = Value.INSTANCE;
                bits = people.made + i;
                if (sensing && i < 0) {
                    fail(WRONG_SENSE, place);
                }
            } else if (c == '-' || Tokens.isDigit(c)) {
                number();
            } else {
                fail(WRONG_FORM, at);
            }
        }

        private void hexadecimal() {
            at++;
            kind = Value.REAL;
            for (int n = 0; n < 16 && fault == 0; n++) {
                int c = peek();
                if (Tokens.isDigit(c)) {
                    bits = bits << 4 | c - '0';
                } else if (c >= 'a' && c <= 'f') {
                    bits = bits << 4 | c - 'a' + 10;
                } else {
                    fail(WRONG_FORM, at);
                }
                at++;
            }
            bits = Reals.clean(bits);
        }

        private void itemOrLogical() {
            int place = at;
            at++;
            long name = word();
            expect('.');
            if (name == Tokens.digitOf('t') || name == Tokens.digitOf('f') || name == Tokens.digitOf('u')) {
                kind = Value.LOGICAL;
                bits = name == Tokens.digitOf('t') ? Value.TRUE
                    : name == Tokens.digitOf('f') ? Value.FALSE : Value.UNKNOWN;
                return;
            }
            int item = people.schema.find(Schema.ITEMS, name);
            kind = Value.ITEM;
            bits = item;
            if (sensing && item < 0) {
                fail(WRONG_SENSE, place);
            }
        }

        private void number() {
            int place = at;
            boolean minus = peek() == '-';
            at += minus ? 1 : 0;
            int start = at;
            long value = digits(0, 10);
            int front = at - start;
            boolean pointed = peek() == '.';
            if (front == 0) {
                fail(WRONG_FORM, at);
            } else if (front > (pointed ? 6 : 10)) {
                fail(WRONG_FORM, place);
            }
            if (!pointed) {
                kind = Value.INTEGER;
                bits = minus ? -value : value;
                if (bits != (int) bits) {
                    fail(WRONG_FORM, place);
                }
                return;
            }
            at++;
            start = at;
            value = digits(value, 6);
            int behind = at - start;
            if (behind == 0) {
                fail(WRONG_FORM, at);
            } else if (behind > 6) {
                fail(WRONG_FORM, place);
            }
            long scale = 1;
            for (int n = 0; n < behind && n < 6; n++) {
                scale = scale * 10;
            }
            kind = Value.REAL;
            bits = Reals.ofDecimal(value, scale) | (minus ? 1L << 63 : 0);
        }

        /** Reads all digits from here on; returns the number that goes on with the first ones of them. */
        private long digits(long before, int most) {
            long value = before;
            int count = 0;
            for (int n = 0; n < length && Tokens.isDigit(peek()); n++) {
                value = count < most ? value * 10 + peek() - '0' : value;
                count++;
                at++;
            }
            return value;
        }
    }

    /** Writes the population as a file. */
    private static final class FileWriter {
        private static final int MOST = 6000;

        private final Population people;
        byte[] bytes = new byte[MOST];
        int size;
        private byte[] draft = new byte[MOST];
        private int drafted;

        FileWriter(Population people) {
            this.people = people;
        }

        void start() {
            drafted = 0;
        }

        /** Makes what was written the output; returns its number of bytes, or FULL if they are too many. */
        int finish() {
            if (drafted > MOST) {
                return FULL;
            }
            byte[] old = bytes;
            bytes = draft;
            draft = old;
            size = drafted;
            return size;
        }

        private void add(int c) {
            if (drafted < draft.length) {
                draft[drafted] = (byte) c;
            }
            drafted++;
        }

        void instance(int x, int combination) {
            add('#');
            number(x);
            add('=');
            int whole = NONE;
            for (int e = 0; e < people.schema.counts[Schema.ENTITIES]; e++) {
                if ((people.schema.entities[e][Schema.ABOVE] | 1 << e) == combination) {
                    whole = e;
                }
            }
            if (whole >= 0) {
                form(x, whole, combination);
            } else {
                add('(');
                for (int e = 0; e < people.schema.counts[Schema.ENTITIES]; e++) {
                    if ((combination >> e & 1) == 1) {
                        form(x, e, 1 << e);
                    }
                }
                add(')');
            }
            add(';');
        }

        /** Writes a form with the name of entity e and the attributes of some entities. */
        private void form(int x, int e, int set) {
            word(people.schema.names[Schema.ENTITIES][e]);
            add('(');
            boolean first = true;
            for (int a = 0; a < people.schema.counts[Schema.ATTRIBUTES]; a++) {
                if (people.schema.isExplicit(a) && (set >> people.schema.attributes[a][Schema.ENTITY] & 1) == 1) {
                    if (!first) {
                        add(',');
                    }
                    first = false;
                    held(people.heldBy(x, a));
                }
            }
            add(')');
        }

        private void word(long code) {
            int length = Tokens.lengthOf(code);
            for (int k = 0; k < length; k++) {
                add(Tokens.byteOf(code, k));
            }
        }

        private void held(Value value) {
            if (value.kind != Value.AGGREGATE) {
                scalar(value.kind, value.bits);
                return;
            }
            add('(');
            for (int i = 0; i < value.cells.length; i++) {
                if (i > 0) {
                    add(',');
                }
                scalar(value.kindAt(i), value.bitsAt(i));
            }
            add(')');
        }

        private void scalar(int kind, long bits) {
            long[] items = people.schema.names[Schema.ITEMS];
            switch (kind) {
                case Value.INTEGER:
                    number(bits);
                    break;
                case Value.REAL:
                    real(bits);
                    break;
                case Value.LOGICAL:
                    add('.');
                    add(bits == Value.TRUE ? 't' : bits == Value.FALSE ? 'f' : 'u');
                    add('.');
                    break;
                case Value.ITEM:
                    add('.');
                    word(bits < 0 || bits >= items.length ? 0 : items[(int) bits]);
                    add('.');
                    break;
                case Value.INSTANCE:
                    add('#');
                    number(bits);
                    break;
                default:
                    add('$');
                    break;
            }
        }

        private void number(long n) {
            if (n < 0) {
                add('-');
            }
            long size = n < 0 ? -n : n;
            long unit = 1;
            for (int i = 0; i < 18 && unit <= size / 10; i++) {
                unit = unit * 10;
            }
            for (; unit > 0; unit = unit / 10) {
                add((int) ('0' + size / unit % 10));
            }
        }

        private void real(long bits) {
            boolean small = !Reals.isNan(bits) && Reals.toDouble(bits & ~(1L << 63)) < 1000000;
            double size = small ? Reals.toDouble(bits & ~(1L << 63)) : 0;
            long scale = 10;
            for (int k = 1; k <= 6 && small; k++) {
                long digits = (long) (size * (double) scale + 0.5);
                if ((double) digits / (double) scale == size && digits < scale * 1000000) {
                    decimal(bits < 0, digits, scale);
                    return;
                }
                scale = scale * 10;
            }
            add('%');
            for (int shift = 60; shift >= 0; shift -= 4) {
                int digit = (int) (bits >> shift & 15);
                add(digit < 10 ? '0' + digit : 'a' + digit - 10);
            }
        }

        private void decimal(boolean minus, long digits, long scale) {
            if (minus) {
                add('-');
            }
            long unit = scale;
            for (int i = 0; i < 18 && unit <= digits / 10; i++) {
                unit = unit * 10;
            }
            for (; unit > 0; unit = unit / 10) {
                if (unit == scale / 10) {
                    add('.');
                }
                add((int) ('0' + digits / unit % 10));
            }
        }
    }
}
