import java.util.Arrays;

/** Code of processes that read and drive signals, resumed step by step; the document says all that it does. */
public final class StepCode {
    public static final int NONE = -1;
    public static final int LOGIC = 0, ROW = 1, NUMBER = 2;
    public static final int NEW = 0, WAITS = 1, STOPPED = 2, FAULTED = 3;

    private static final int MOST_SIGNALS = 512, MOST_VARIABLES = 128, MOST_NODES = 4000;
    private static final int MOST_PROCESSES = 64, MOST_NODES_KEPT = 20000, MOST_STEPS = 10000;
    private static final int MOST_BELOW = 100, MOST_ELEMENTS = 64, MOST_UNIT = 1000000;
    private static final int MOST_ACTS = 200, MOST_TOLD_VALUES = 500, MOST_WAVES = 16;
    private static final int GREATEST = Integer.MAX_VALUE, LEAST = -Integer.MAX_VALUE;

    private static final int U = 0, FREE = 8;

    private static final int K_NOTHING = 0, K_NUMBER = 2, K_LOGIC = 3, K_ROW = 4, K_ONE = 20, K_TWO = 21;
    private static final int K_ASSIGN = 30, K_WAVE = 31, K_TIME = 32, K_SET = 33, K_IF = 34, K_CASE = 35;
    private static final int K_CHOICE = 36, K_OTHERS = 37, K_UP = 38, K_DOWN = 39, K_WHILE = 40, K_LOOP = 41;
    private static final int K_EXIT = 42, K_NEXT = 43, K_WAIT = 44, K_NULL = 45, K_REPORT = 46, K_ASSERT = 47;
    private static final int K_LIST = 48, K_SIGNAL = 80, K_VARIABLE = 81, K_ELEMENT = 82, K_PART = 83;
    private static final int K_FUNCTION = 84, K_OF_SIGNAL = 85, LAST_KIND = 99;

    private static final int RISING = 8, FALLING = 9, TO_NUMBER = 10, TO_ROW = 11;
    private static final int EVENT = 15, LAST_VALUE = 17;
    private static final int NOT = 0, MINUS = 1, SIZE = 3;
    private static final int AND = 0, OR = 1, AND_TURNED = 2, OR_TURNED = 3, OTHER = 4, OTHER_TURNED = 5;
    private static final int SAME = 6, NOT_SAME = 7, LESS = 8, NOT_MORE = 9, MORE = 10, NOT_LESS = 11;
    private static final int SUM = 12, DIFFERENCE = 13, JOINED = 14, PRODUCT = 15, QUOTIENT = 16, MODULUS = 17;
    private static final int TO_THE_LEFT = 19, TO_THE_RIGHT = 20;
    private static final int MODE_WITH_LIMIT = 2;

    private static final int F_CLASS = 3, F_LENGTH = 4, F_ELEMENT = 6, F_RANGE = 8, F_BEYOND = 9, F_BY_ZERO = 10;
    private static final int F_TIMES = 13, F_TOO_MUCH = 14, F_NO_CHOICE = 15;

    /** What the next step of a process is: the begin of its body, the begin of a statement, or a loop's look. */
    private static final int AT_BODY = 0, AT_STATEMENT = 1, AT_LOOK = 2;

    private final Things signals;
    private final Maker maker;
    private final Looker looker;
    private final Unit[] units;
    private int unitCount;
    private int nodesKept;
    private final Told told;
    private final Runner runner;

    public StepCode() {
        signals = new Things(MOST_SIGNALS);
        maker = new Maker();
        looker = new Looker(maker, signals);
        units = new Unit[MOST_PROCESSES];
        told = new Told();
        runner = new Runner(signals, told);
    }

    public int signal(int is, int a, int b) throws IllegalArgumentException, IllegalStateException {
        if (!Thing.canBe(is, a, b)) {
            throw new IllegalArgumentException("no such class or range");
        }
        if (signals.isFull()) {
            throw new IllegalStateException("too many signals");
        }
        return signals.keep(new Thing(is, a, b));
    }

    public int variable(int is, int a, int b) throws IllegalArgumentException, IllegalStateException {
        if (!Thing.canBe(is, a, b)) {
            throw new IllegalArgumentException("no such class or range");
        }
        if (maker.variables.isFull()) {
            throw new IllegalStateException("too many variables");
        }
        return maker.variables.keep(new Thing(is, a, b));
    }

    public int add(int kind, int value, int n) throws IllegalArgumentException, IllegalStateException {
        if (kind < 0 || kind > LAST_KIND || n < 0 || n > maker.rootCount) {
            throw new IllegalArgumentException("no such kind, or not so many trees");
        }
        if (maker.nodes.isFull()) {
            throw new IllegalStateException("too many nodes");
        }
        return maker.make(kind, value, n);
    }

    public int process() throws IllegalStateException {
        int count = maker.nodes.count;
        if (unitCount >= units.length || nodesKept + count > MOST_NODES_KEPT) {
            throw new IllegalStateException("too many processes or nodes");
        }
        int answer = looker.firstWrong();
        if (answer != NONE) {
            answer = -1 - answer;
        } else if (!looker.isOneBody()) {
            answer = count == 0 ? -1 : -count;
        } else {
            answer = unitCount;
            units[unitCount] = new Unit(maker.nodes.trimmed(), maker.variables.trimmed());
            unitCount++;
            nodesKept += count;
        }
        maker.clear();
        return answer;
    }

    public int processes() {
        return unitCount;
    }

    public void put(int signal, boolean last, int k, int value)
            throws IndexOutOfBoundsException, IllegalArgumentException {
        Thing thing = signals.pick(signal);
        if (thing == null || !thing.hasElement(k)) {
            throw new IndexOutOfBoundsException("no such signal or element");
        }
        if (!thing.allows(value)) {
            throw new IllegalArgumentException("not a value of the signal");
        }
        if (last) {
            thing.last.change(k, value);
        } else {
            thing.now.change(k, value);
        }
    }

    public void mark(int signal, boolean event, boolean active) throws IndexOutOfBoundsException {
        Thing thing = signals.pick(signal);
        if (thing == null) {
            throw new IndexOutOfBoundsException("no such signal");
        }
        thing.event = event;
        thing.active = active;
    }

    public int get(int signal, int k) throws IndexOutOfBoundsException {
        Thing thing = signals.pick(signal);
        if (thing == null || !thing.hasElement(k)) {
            throw new IndexOutOfBoundsException("no such signal or element");
        }
        return thing.now.element(k);
    }

    public void set(int process, int variable, int k, int value)
            throws IndexOutOfBoundsException, IllegalArgumentException {
        Thing thing = variableThing(process, variable);
        if (thing == null || !thing.hasElement(k)) {
            throw new IndexOutOfBoundsException("no such process, variable or element");
        }
        if (!thing.allows(value)) {
            throw new IllegalArgumentException("not a value of the variable");
        }
        thing.now.change(k, value);
    }

    public int variableOf(int process, int variable, int k) throws IndexOutOfBoundsException {
        Thing thing = variableThing(process, variable);
        if (thing == null || !thing.hasElement(k)) {
            throw new IndexOutOfBoundsException("no such process, variable or element");
        }
        return thing.now.element(k);
    }

    public int resume(int process, int steps)
            throws IndexOutOfBoundsException, IllegalArgumentException, IllegalStateException {
        Unit unit = unitAt(process);
        if (unit == null) {
            throw new IndexOutOfBoundsException("no such process");
        }
        if (steps < 1 || steps > MOST_STEPS) {
            throw new IllegalArgumentException("not a number of steps");
        }
        if (unit.state == STOPPED || unit.state == FAULTED) {
            throw new IllegalStateException("the process has ended");
        }
        told.clear();
        unit.leaveWait();
        for (int made = 0; made < steps; made++) {
            if (!runner.step(unit)) {
                return unit.state;
            }
        }
        unit.state = STOPPED;
        return STOPPED;
    }

    public int holds(int process) throws IndexOutOfBoundsException, IllegalStateException {
        Unit unit = unitAt(process);
        if (unit == null) {
            throw new IndexOutOfBoundsException("no such process");
        }
        if (unit.state != WAITS) {
            throw new IllegalStateException("the process does not wait");
        }
        return runner.waitIsOver(unit);
    }

    public int about(int process, int what) throws IndexOutOfBoundsException, IllegalArgumentException {
        Unit unit = unitAt(process);
        if (unit == null) {
            throw new IndexOutOfBoundsException("no such process");
        }
        switch (what) {
            case 0:
                return unit.state;
            case 1:
                return unit.fault;
            case 2:
                return unit.faultNode;
            case 3:
                return unit.signalsWaitedFor();
            case 4:
                return unit.waitsForExpression() ? 1 : 0;
            case 5:
                return unit.steps;
            default:
                throw new IllegalArgumentException("nothing is told about that");
        }
    }

    public int waits(int process, int i) throws IndexOutOfBoundsException {
        Unit unit = unitAt(process);
        if (unit == null || i < 0 || i >= unit.signalsWaitedFor()) {
            throw new IndexOutOfBoundsException("no such process or signal");
        }
        return unit.signalWaitedFor(i);
    }

    public long until(int process) throws IndexOutOfBoundsException {
        Unit unit = unitAt(process);
        if (unit == null) {
            throw new IndexOutOfBoundsException("no such process");
        }
        return unit.waitTime;
    }

    public int acts() {
        return told.count;
    }

    public int act(int i, int what) throws IndexOutOfBoundsException, IllegalArgumentException {
        if (!told.has(i)) {
            throw new IndexOutOfBoundsException("no such act");
        }
        switch (what) {
            case 0:
                return told.report[i];
            case 1:
                return told.subject[i];
            case 2:
                return told.first[i];
            case 3:
                return told.many[i];
            case 4:
                return told.mode[i];
            case 5:
                return told.values[i];
            default:
                throw new IllegalArgumentException("nothing is told about that");
        }
    }

    public int value(int i, int w, int k) throws IndexOutOfBoundsException {
        Datum datum = told.datumOf(i, w);
        if (datum == null || k < 0 || k >= datum.length) {
            throw new IndexOutOfBoundsException("no such act, value or element");
        }
        return datum.element(k);
    }

    public long delay(int i, int w) throws IndexOutOfBoundsException {
        if (w == NONE && told.isAssign(i)) {
            return told.limit[i];
        }
        int place = told.placeOf(i, w);
        if (place == NONE) {
            throw new IndexOutOfBoundsException("no such act or value");
        }
        return told.delays[place];
    }

    private Unit unitAt(int process) {
        return process >= 0 && process < unitCount ? units[process] : null;
    }

    private Thing variableThing(int process, int variable) {
        Unit unit = unitAt(process);
        return unit == null ? null : unit.variables.pick(variable);
    }

    /**
     * A value. Elements of LOGIC are kept as four planes of bits, plane j having bit j of every element's code, so that
     * a row costs no more than one element; the codes are such that bit 1 tells ZERO, ONE, L, H from the others, and
     * bit 0 then tells ONE and H. Bits beyond the length are 0.
     */
    private static final class Datum {
        int is;
        int length = 1;
        long number;
        long bit0, bit1, bit2, bit3;

        void copy(Datum from) {
            is = from.is;
            length = from.length;
            number = from.number;
            bit0 = from.bit0;
            bit1 = from.bit1;
            bit2 = from.bit2;
            bit3 = from.bit3;
        }

        /** A leaf of all calls, so that what uses it stays shallow. */
        void hold(int newClass, int newLength, long b0, long b1, long b2, long b3) {
            long mask = -1L >>> (MOST_ELEMENTS - newLength);
            is = newClass;
            length = newLength;
            number = 0;
            bit0 = b0 & mask;
            bit1 = b1 & mask;
            bit2 = b2 & mask;
            bit3 = b3 & mask;
        }

        void beNumber(long n) {
            is = NUMBER;
            length = 1;
            number = n;
            bit0 = 0;
            bit1 = 0;
            bit2 = 0;
            bit3 = 0;
        }

        void beLogic(int code) {
            hold(LOGIC, 1, code, code >> 1, code >> 2, code >> 3);
        }

        void keepPart(int newClass, int from, int many) {
            hold(newClass, many, bit0 >>> from, bit1 >>> from, bit2 >>> from, bit3 >>> from);
        }

        /** Elements from 'from' on become those of another value. */
        void overlay(int from, Datum part) {
            long kept = ~(-1L >>> (MOST_ELEMENTS - part.length) << from);
            hold(is, length, bit0 & kept | part.bit0 << from, bit1 & kept | part.bit1 << from,
                    bit2 & kept | part.bit2 << from, bit3 & kept | part.bit3 << from);
        }

        void change(int k, int to) {
            if (is == NUMBER) {
                number = to;
                return;
            }
            long kept = ~(1L << k);
            hold(is, length, bit0 & kept | (to & 1L) << k, bit1 & kept | (to >> 1 & 1L) << k,
                    bit2 & kept | (to >> 2 & 1L) << k, bit3 & kept | (to >> 3 & 1L) << k);
        }

        int element(int k) {
            if (is == NUMBER) {
                return (int) number;
            }
            return (int) (bit0 >>> k & 1 | (bit1 >>> k & 1) << 1 | (bit2 >>> k & 1) << 2 | (bit3 >>> k & 1) << 3);
        }

        long zeros() {
            return bit1 & ~bit0;
        }

        long ones() {
            return bit1 & bit0;
        }

        long unset() {
            return ~(bit0 | bit1 | bit2 | bit3) & -1L >>> (MOST_ELEMENTS - length);
        }

        boolean isClear() {
            return bit1 == -1L >>> (MOST_ELEMENTS - length);
        }

        boolean isSame(Datum to) {
            return number == to.number && bit0 == to.bit0 && bit1 == to.bit1 && bit2 == to.bit2 && bit3 == to.bit3;
        }

        /** What forbids to look whether two values are the same. */
        int unlike(Datum to) {
            if (is != to.is) {
                return F_CLASS;
            }
            return length != to.length ? F_LENGTH : 0;
        }
    }

    /** A signal or a variable. */
    private static final class Thing {
        final int is, length, least, greatest;
        final Datum now, last;
        boolean event, active;

        Thing(int is, int a, int b) {
            this.is = is;
            length = is == ROW ? a : 1;
            least = is == NUMBER ? a : U;
            greatest = is == NUMBER ? b : FREE;
            now = new Datum();
            last = new Datum();
            now.hold(is, length, 0, 0, 0, 0);
            now.number = least;
            last.copy(now);
        }

        static boolean canBe(int is, int a, int b) {
            switch (is) {
                case LOGIC:
                    return a == 0 && b == 0;
                case ROW:
                    return a >= 1 && a <= MOST_ELEMENTS && b == 0;
                case NUMBER:
                    return a >= LEAST && b >= LEAST && a <= b;
                default:
                    return false;
            }
        }

        boolean hasElement(int k) {
            return k >= 0 && k < length;
        }

        boolean allows(long value) {
            return value >= least && value <= greatest;
        }
    }

    /** Signals, or variables, by their numbers. */
    private static final class Things {
        private final Thing[] row;
        private int count;

        Things(int most) {
            row = new Thing[Math.max(most, 0)];
        }

        boolean isFull() {
            return count >= row.length;
        }

        int keep(Thing thing) {
            if (isFull()) {
                return NONE;
            }
            row[count] = thing;
            count++;
            return count - 1;
        }

        /** Null when there is none. */
        Thing pick(int i) {
            return i >= 0 && i < count && i < row.length ? row[i] : null;
        }

        void clear() {
            count = 0;
        }

        Things trimmed() {
            Things copy = new Things(count);
            for (int i = 0; i < count && i < row.length; i++) {
                copy.keep(row[i]);
            }
            return copy;
        }
    }

    /** Nodes, children before their parents: so a tree's nodes stand together, in the order in which all is done. */
    private static final class Nodes {
        private final int[] kind, given, start, parent, place, kidAt, kidCount, kids;
        int count;
        private int kidTotal;

        Nodes(int most) {
            int room = Math.max(most, 0);
            kind = new int[room];
            given = new int[room];
            start = new int[room];
            parent = new int[room];
            place = new int[room];
            kidAt = new int[room];
            kidCount = new int[room];
            kids = new int[room];
        }

        private Nodes(Nodes from) {
            count = from.count;
            kidTotal = from.kidTotal;
            kind = Arrays.copyOf(from.kind, count);
            given = Arrays.copyOf(from.given, count);
            start = Arrays.copyOf(from.start, count);
            parent = Arrays.copyOf(from.parent, count);
            place = Arrays.copyOf(from.place, count);
            kidAt = Arrays.copyOf(from.kidAt, count);
            kidCount = Arrays.copyOf(from.kidCount, count);
            kids = Arrays.copyOf(from.kids, count);
        }

        Nodes trimmed() {
            return new Nodes(this);
        }

        boolean isFull() {
            return count >= kind.length;
        }

        int kindOf(int v) {
            return v >= 0 && v < count ? kind[v] : NONE;
        }

        int givenOf(int v) {
            return v >= 0 && v < count ? given[v] : 0;
        }

        int startOf(int v) {
            return v >= 0 && v < count ? start[v] : 0;
        }

        int parentOf(int v) {
            return v >= 0 && v < count ? parent[v] : NONE;
        }

        int placeOf(int v) {
            return v >= 0 && v < count ? place[v] : 0;
        }

        int kidsOf(int v) {
            return v >= 0 && v < count ? kidCount[v] : 0;
        }

        /** NONE when there is none. */
        int kid(int v, int i) {
            if (v < 0 || v >= count || i < 0 || i >= kidCount[v]) {
                return NONE;
            }
            int where = kidAt[v] + i;
            return where >= 0 && where < kids.length ? kids[where] : NONE;
        }

        boolean isLoop(int v) {
            int is = kindOf(v);
            return is >= K_UP && is <= K_LOOP;
        }

        /** The innermost loop that a node is in, NONE without one. */
        int loopOf(int v) {
            int above = parentOf(v);
            for (int level = 0; level < count && above != NONE && !isLoop(above); level++) {
                above = parentOf(above);
            }
            return above;
        }

        int begin(int newKind, int newGiven) {
            if (isFull()) {
                return NONE;
            }
            int v = count;
            kind[v] = newKind;
            given[v] = newGiven;
            start[v] = v;
            parent[v] = NONE;
            place[v] = 0;
            kidAt[v] = kidTotal;
            kidCount[v] = 0;
            count++;
            return v;
        }

        /** Gives the latest node one child more. */
        void take(int child) {
            int v = count - 1;
            if (v < 0 || child < 0 || child >= v || kidTotal >= kids.length) {
                return;
            }
            if (kidCount[v] == 0) {
                start[v] = start[child];
            }
            parent[child] = v;
            place[child] = kidCount[v];
            kids[kidTotal] = child;
            kidTotal++;
            kidCount[v]++;
        }

        void clear() {
            count = 0;
            kidTotal = 0;
        }
    }

    /** The nodes and variables of the process that is being made. */
    private static final class Maker {
        final Nodes nodes;
        final Things variables;
        private final int[] height, roots;
        int rootCount;

        Maker() {
            nodes = new Nodes(MOST_NODES);
            variables = new Things(MOST_VARIABLES);
            height = new int[MOST_NODES];
            roots = new int[MOST_NODES];
        }

        int make(int kind, int given, int n) {
            int from = rootCount - n;
            if (n < 0 || from < 0 || rootCount > roots.length || nodes.isFull()) {
                return NONE;
            }
            int v = nodes.begin(kind, given);
            int below = 0;
            for (int i = from; i < rootCount; i++) {
                nodes.take(roots[i]);
                below = Math.max(below, heightOf(roots[i]));
            }
            rootCount = from;
            if (v >= 0 && v < height.length && from < roots.length) {
                height[v] = below + 1;
                roots[from] = v;
                rootCount++;
            }
            return v;
        }

        int heightOf(int v) {
            return v >= 0 && v < height.length ? height[v] : 0;
        }

        void clear() {
            nodes.clear();
            variables.clear();
            rootCount = 0;
        }
    }

    /** Looks trees over for what is WRONG; only children's kinds count, as a child that is WRONG comes first. */
    private static final class Looker {
        private final Maker maker;
        private final Nodes nodes;
        private final Things signals;

        Looker(Maker maker, Things signals) {
            this.maker = maker;
            nodes = maker.nodes;
            this.signals = signals;
        }

        /** NONE when all are right. */
        int firstWrong() {
            for (int v = 0; v < nodes.count; v++) {
                if (maker.heightOf(v) > MOST_BELOW || !isRight(v)) {
                    return v;
                }
            }
            return NONE;
        }

        boolean isOneBody() {
            return maker.rootCount == 1 && isStatements(nodes.count - 1);
        }

        private boolean isRight(int v) {
            int kind = nodes.kindOf(v);
            if (kind == K_TIME) {
                return isWithin(nodes.givenOf(v), 1, MOST_UNIT) && nodes.kidsOf(v) == 1 && isExpressionKid(v, 0);
            }
            if (kind == K_ASSIGN) {
                return isAssign(v);
            }
            if (isExpression(kind)) {
                return isRightExpression(v, kind, nodes.givenOf(v), nodes.kidsOf(v));
            }
            return nodes.givenOf(v) == 0 && isRightStatement(v, kind, nodes.kidsOf(v));
        }

        private boolean isRightExpression(int v, int kind, int given, int kids) {
            switch (kind) {
                case K_NUMBER:
                    return kids == 0 && given >= LEAST;
                case K_LOGIC:
                    return kids == 0 && isWithin(given, U, FREE);
                case K_ROW:
                    return given == 0 && isWithin(kids, 1, MOST_ELEMENTS) && areKids(v, 0, K_LOGIC);
                case K_SIGNAL:
                case K_VARIABLE:
                    return kids == 0 && thingOf(v) != null;
                case K_ELEMENT:
                    return given == 0 && kids == 2 && isThing(nodes.kid(v, 0), ROW) && isExpressionKid(v, 1);
                case K_PART:
                    return given == 0 && kids == 3 && isPart(v);
                case K_FUNCTION:
                    return isFunction(v, given, kids);
                case K_OF_SIGNAL:
                    return isWithin(given, EVENT, LAST_VALUE) && kids == 1 && kidKind(v, 0) == K_SIGNAL;
                case K_ONE:
                    return isWithin(given, NOT, SIZE) && kids == 1 && isExpressionKid(v, 0);
                case K_TWO:
                    return isWithin(given, AND, TO_THE_RIGHT) && kids == 2 && isExpressionKid(v, 0)
                            && isExpressionKid(v, 1);
                default:
                    return false;
            }
        }

        private boolean isRightStatement(int v, int kind, int kids) {
            switch (kind) {
                case K_NOTHING:
                case K_OTHERS:
                case K_NULL:
                    return kids == 0;
                case K_LIST:
                    return true;
                case K_WAVE:
                    return kids == 2 && isExpressionKid(v, 0) && isKidOrNothing(v, 1, K_TIME);
                case K_SET:
                    return kids == 2 && isTarget(nodes.kid(v, 0), K_VARIABLE) && isExpressionKid(v, 1);
                case K_IF:
                    return isIf(v, kids);
                case K_CASE:
                    return kids >= 2 && isExpressionKid(v, 0) && areKids(v, 1, K_CHOICE);
                case K_CHOICE:
                    return kids == 2 && areChoices(nodes.kid(v, 0)) && isStatements(nodes.kid(v, 1));
                case K_UP:
                case K_DOWN:
                    return kids == 4 && kidKind(v, 0) == K_VARIABLE && isThing(nodes.kid(v, 0), NUMBER)
                            && isExpressionKid(v, 1) && isExpressionKid(v, 2) && isStatements(nodes.kid(v, 3));
                case K_WHILE:
                    return kids == 2 && isExpressionKid(v, 0) && isStatements(nodes.kid(v, 1));
                case K_LOOP:
                    return kids == 1 && isStatements(nodes.kid(v, 0));
                case K_EXIT:
                case K_NEXT:
                    return kids == 1 && isExpressionOrNothing(v, 0) && nodes.loopOf(v) != NONE;
                case K_WAIT:
                    return kids == 3 && isSignals(nodes.kid(v, 0)) && isExpressionOrNothing(v, 1)
                            && isKidOrNothing(v, 2, K_TIME);
                case K_REPORT:
                    return kids == 1 && isExpressionKid(v, 0);
                case K_ASSERT:
                    return kids == 2 && isExpressionKid(v, 0) && isExpressionKid(v, 1);
                default:
                    return false;
            }
        }

        private boolean isFunction(int v, int given, int kids) {
            switch (given) {
                case RISING:
                case FALLING:
                    return kids == 1 && kidKind(v, 0) == K_SIGNAL && isThing(nodes.kid(v, 0), LOGIC);
                case TO_NUMBER:
                    return kids == 1 && isExpressionKid(v, 0);
                case TO_ROW:
                    return kids == 2 && isExpressionKid(v, 0) && kidKind(v, 1) == K_NUMBER
                            && isWithin(nodes.givenOf(nodes.kid(v, 1)), 1, MOST_ELEMENTS);
                default:
                    return false;
            }
        }

        private boolean isPart(int v) {
            Thing thing = thingOf(nodes.kid(v, 0));
            if (thing == null || thing.is != ROW || kidKind(v, 1) != K_NUMBER || kidKind(v, 2) != K_NUMBER) {
                return false;
            }
            int first = nodes.givenOf(nodes.kid(v, 1));
            int many = nodes.givenOf(nodes.kid(v, 2));
            return first >= 0 && many >= 1 && many <= thing.length - first;
        }

        private boolean isAssign(int v) {
            int mode = nodes.givenOf(v);
            int from = mode == MODE_WITH_LIMIT ? 2 : 1;
            return isWithin(mode, 0, MODE_WITH_LIMIT) && isTarget(nodes.kid(v, 0), K_SIGNAL)
                    && (from == 1 || kidKind(v, 1) == K_TIME)
                    && isWithin(nodes.kidsOf(v) - from, 1, MOST_WAVES) && areKids(v, from, K_WAVE);
        }

        private boolean isIf(int v, int kids) {
            for (int i = 0; i + 1 < kids; i += 2) {
                if (!isExpressionKid(v, i) || !isStatements(nodes.kid(v, i + 1))) {
                    return false;
                }
            }
            return kids >= 2 && (kids % 2 == 0 || isStatements(nodes.kid(v, kids - 1)));
        }

        private boolean isTarget(int v, int wanted) {
            int kind = nodes.kindOf(v);
            return kind == wanted || (kind == K_ELEMENT || kind == K_PART) && kidKind(v, 0) == wanted;
        }

        private boolean isStatements(int v) {
            if (nodes.kindOf(v) != K_LIST) {
                return false;
            }
            for (int i = 0; i < nodes.kidsOf(v); i++) {
                if (!isStatement(kidKind(v, i))) {
                    return false;
                }
            }
            return true;
        }

        private boolean isSignals(int v) {
            return nodes.kindOf(v) == K_LIST && areKids(v, 0, K_SIGNAL);
        }

        private boolean areChoices(int v) {
            for (int i = 0; i < nodes.kidsOf(v); i++) {
                int kind = kidKind(v, i);
                if (kind != K_OTHERS && !isWithin(kind, K_NUMBER, K_ROW)) {
                    return false;
                }
            }
            return nodes.kindOf(v) == K_LIST && nodes.kidsOf(v) >= 1;
        }

        private boolean areKids(int v, int from, int kind) {
            for (int i = from; i < nodes.kidsOf(v); i++) {
                if (kidKind(v, i) != kind) {
                    return false;
                }
            }
            return true;
        }

        private boolean isKidOrNothing(int v, int i, int kind) {
            int is = kidKind(v, i);
            return is == kind || is == K_NOTHING;
        }

        private boolean isExpressionOrNothing(int v, int i) {
            return isExpressionKid(v, i) || kidKind(v, i) == K_NOTHING;
        }

        private boolean isExpressionKid(int v, int i) {
            return isExpression(kidKind(v, i));
        }

        private int kidKind(int v, int i) {
            return nodes.kindOf(nodes.kid(v, i));
        }

        private boolean isThing(int v, int is) {
            Thing thing = thingOf(v);
            return thing != null && thing.is == is;
        }

        private Thing thingOf(int v) {
            int kind = nodes.kindOf(v);
            if (kind == K_SIGNAL) {
                return signals.pick(nodes.givenOf(v));
            }
            return kind == K_VARIABLE ? maker.variables.pick(nodes.givenOf(v)) : null;
        }

        private static boolean isExpression(int kind) {
            return isWithin(kind, K_NUMBER, K_ROW) || kind == K_ONE || kind == K_TWO
                    || isWithin(kind, K_SIGNAL, K_OF_SIGNAL);
        }

        private static boolean isStatement(int kind) {
            return kind == K_ASSIGN || isWithin(kind, K_SET, K_CASE) || isWithin(kind, K_UP, K_ASSERT);
        }

        private static boolean isWithin(int n, int least, int greatest) {
            return n >= least && n <= greatest;
        }
    }

    /** A process: its code, its variables, and where it stands. */
    private static final class Unit {
        final Nodes nodes;
        final Things variables;
        int state = NEW;
        int fault;
        int faultNode = NONE;
        int steps;
        int task = AT_BODY;
        int at = NONE;
        int waitNode = NONE;
        long waitTime = NONE;
        private final long[] next, end;

        Unit(Nodes nodes, Things variables) {
            this.nodes = nodes;
            this.variables = variables;
            next = new long[Math.max(nodes.count, 0)];
            end = new long[Math.max(nodes.count, 0)];
        }

        void countStep() {
            if (steps < GREATEST) {
                steps++;
            }
        }

        /** Goes to the statement at a place of a LIST, or, behind its last one, to what follows the LIST. */
        void goTo(int list, int place) {
            int in = list;
            int to = place;
            for (int level = 0; level <= MOST_BELOW; level++) {
                int statement = nodes.kid(in, to);
                if (statement != NONE) {
                    task = AT_STATEMENT;
                    at = statement;
                    return;
                }
                int owner = nodes.parentOf(in);
                if (owner == NONE || nodes.isLoop(owner)) {
                    task = owner == NONE ? AT_BODY : AT_LOOK;
                    at = owner;
                    return;
                }
                int done = nodes.kindOf(owner) == K_CHOICE ? nodes.parentOf(owner) : owner;
                in = nodes.parentOf(done);
                to = nodes.placeOf(done) + 1;
            }
        }

        /** Always true: the process goes on. */
        boolean goBehind(int statement) {
            goTo(nodes.parentOf(statement), nodes.placeOf(statement) + 1);
            return true;
        }

        boolean goInto(int list) {
            goTo(list, 0);
            return true;
        }

        boolean goToLook(int loop) {
            task = AT_LOOK;
            at = loop;
            return true;
        }

        void beginCount(int loop, long from, long to) {
            if (loop >= 0 && loop < next.length) {
                next[loop] = from;
                end[loop] = to;
            }
        }

        boolean isCountOver(int loop) {
            if (loop < 0 || loop >= next.length) {
                return true;
            }
            return nodes.kindOf(loop) == K_UP ? next[loop] > end[loop] : next[loop] < end[loop];
        }

        /** The number whose turn it is; behind it comes the next one's. */
        long countOn(int loop) {
            if (loop < 0 || loop >= next.length) {
                return 0;
            }
            long number = next[loop];
            next[loop] = nodes.kindOf(loop) == K_UP ? number + 1 : number - 1;
            return number;
        }

        /** Always false: the process does not go on. */
        boolean fail(int newFault, int node) {
            leaveWait();
            state = FAULTED;
            fault = newFault;
            faultNode = node;
            return false;
        }

        boolean waitAt(int node, long time) {
            goBehind(node);
            state = WAITS;
            waitNode = node;
            waitTime = time;
            return false;
        }

        void leaveWait() {
            waitNode = NONE;
            waitTime = NONE;
        }

        int signalsWaitedFor() {
            return nodes.kidsOf(nodes.kid(waitNode, 0));
        }

        int signalWaitedFor(int i) {
            return nodes.givenOf(nodes.kid(nodes.kid(waitNode, 0), i));
        }

        boolean waitsForExpression() {
            return waitNode != NONE && nodes.kindOf(nodes.kid(waitNode, 1)) != K_NOTHING;
        }
    }

    /** The acts of the last resumption. */
    private static final class Told {
        final int[] report, subject, first, many, mode, values;
        private final int[] from;
        final long[] limit, delays;
        private final Datum[] data;
        int count;
        private int total;

        Told() {
            report = new int[MOST_ACTS];
            subject = new int[MOST_ACTS];
            first = new int[MOST_ACTS];
            many = new int[MOST_ACTS];
            mode = new int[MOST_ACTS];
            values = new int[MOST_ACTS];
            from = new int[MOST_ACTS];
            limit = new long[MOST_ACTS];
            delays = new long[MOST_TOLD_VALUES];
            data = new Datum[MOST_TOLD_VALUES];
            for (int i = 0; i < data.length; i++) {
                data[i] = new Datum();
            }
        }

        void clear() {
            count = 0;
            total = 0;
        }

        boolean has(int i) {
            return i >= 0 && i < count && i < MOST_ACTS;
        }

        boolean isAssign(int i) {
            return has(i) && report[i] == 0;
        }

        boolean hasRoomFor(int more) {
            return count < MOST_ACTS && total + more <= MOST_TOLD_VALUES;
        }

        void tellReport(int what) {
            if (hasRoomFor(0)) {
                report[count] = 1;
                subject[count] = what;
                first[count] = 0;
                many[count] = 0;
                mode[count] = 0;
                values[count] = 0;
                from[count] = total;
                limit[count] = 0;
                count++;
            }
        }

        /** An ASSIGN to so many elements; its values are to be told next. */
        void tellAssign(int signal, int element, int elements, int newMode, long newLimit) {
            if (hasRoomFor(0)) {
                report[count] = 0;
                subject[count] = signal;
                first[count] = element;
                many[count] = elements;
                mode[count] = newMode;
                values[count] = 0;
                from[count] = total;
                limit[count] = newLimit;
                count++;
            }
        }

        /** One value more of the latest act. */
        void tellValue(Datum datum, long after) {
            if (has(count - 1) && total >= 0 && total < MOST_TOLD_VALUES) {
                data[total].copy(datum);
                delays[total] = after;
                total++;
                values[count - 1]++;
            }
        }

        /** NONE when the act has no such value. */
        int placeOf(int i, int w) {
            if (!has(i) || w < 0 || w >= values[i]) {
                return NONE;
            }
            int place = from[i] + w;
            return place >= 0 && place < MOST_TOLD_VALUES ? place : NONE;
        }

        /** Null when the act has no such value. */
        Datum datumOf(int i, int w) {
            int place = placeOf(i, w);
            return place == NONE ? null : data[place];
        }
    }

    /**
     * Finds what expressions are. A tree's nodes are gone through in their own order, with what is found and not used
     * yet on a stack: no call stands in another one, however deep the tree is.
     */
    private static final class Finder {
        private final Things signals;
        private final Datum[] stack;
        private int top;

        Finder(Things signals) {
            this.signals = signals;
            // At most one operand waits for each node above, and a part's numbers besides.
            stack = new Datum[MOST_BELOW + 4];
            for (int i = 0; i < stack.length; i++) {
                stack[i] = new Datum();
            }
        }

        Datum found() {
            return stack[0];
        }

        boolean isNumber() {
            return stack[0].is == NUMBER;
        }

        /** False when there is a fault, which ends the process. A TIME is found as a number too, and NOTHING is 0. */
        boolean find(Unit unit, int v) {
            Nodes nodes = unit.nodes;
            top = 0;
            for (int i = nodes.startOf(v); i <= v && i < nodes.count; i++) {
                int given = nodes.givenOf(i);
                int wrong = 0;
                switch (nodes.kindOf(i)) {
                    case K_NOTHING:
                        push().beNumber(0);
                        break;
                    case K_NUMBER:
                        push().beNumber(given);
                        break;
                    case K_LOGIC:
                        // A ROW gathers its elements itself.
                        if (nodes.kindOf(nodes.parentOf(i)) != K_ROW) {
                            push().beLogic(given);
                        }
                        break;
                    case K_ROW:
                        gather(nodes, i);
                        break;
                    case K_SIGNAL:
                        pushNow(signals.pick(given));
                        break;
                    case K_VARIABLE:
                        pushNow(unit.variables.pick(given));
                        break;
                    case K_ELEMENT:
                        wrong = element();
                        break;
                    case K_PART:
                        part();
                        break;
                    case K_FUNCTION:
                        wrong = function(given, signals.pick(nodes.givenOf(nodes.kid(i, 0))));
                        break;
                    case K_OF_SIGNAL:
                        ofSignal(given, signals.pick(nodes.givenOf(nodes.kid(i, 0))));
                        break;
                    case K_ONE:
                        wrong = one(given, down(0));
                        break;
                    case K_TWO:
                        wrong = two(given, down(1), down(0));
                        drop(1);
                        break;
                    case K_TIME:
                        wrong = time(given, down(0));
                        break;
                    default:
                        break;
                }
                if (wrong != 0) {
                    return unit.fail(wrong, i);
                }
            }
            return true;
        }

        private Datum push() {
            if (top < stack.length) {
                top++;
            }
            return stack[top - 1];
        }

        private void pushNow(Thing thing) {
            Datum datum = push();
            if (thing == null) {
                datum.beNumber(0);
            } else {
                datum.copy(thing.now);
            }
        }

        /** The value that lies so many below the topmost one. */
        private Datum down(int below) {
            return below >= 0 && below < top ? stack[top - 1 - below] : stack[0];
        }

        private void drop(int many) {
            top = Math.max(top - many, 1);
        }

        private void gather(Nodes nodes, int v) {
            int many = nodes.kidsOf(v);
            long b0 = 0;
            long b1 = 0;
            long b2 = 0;
            long b3 = 0;
            for (int i = 0; i < many; i++) {
                int code = nodes.givenOf(nodes.kid(v, i));
                b0 = b0 << 1 | code & 1;
                b1 = b1 << 1 | code >> 1 & 1;
                b2 = b2 << 1 | code >> 2 & 1;
                b3 = b3 << 1 | code >> 3 & 1;
            }
            push().hold(ROW, many, b0, b1, b2, b3);
        }

        private int element() {
            Datum which = down(0);
            Datum row = down(1);
            drop(1);
            if (which.is != NUMBER) {
                return F_CLASS;
            }
            if (which.number < 0 || which.number >= row.length) {
                return F_ELEMENT;
            }
            row.keepPart(LOGIC, (int) which.number, 1);
            return 0;
        }

        private void part() {
            int many = (int) down(0).number;
            int from = (int) down(1).number;
            drop(2);
            down(0).keepPart(ROW, from, many);
        }

        private int function(int which, Thing signal) {
            if (which == TO_NUMBER) {
                return toNumber(down(0));
            }
            if (which == TO_ROW) {
                int length = (int) down(0).number;
                drop(1);
                return toRow(down(0), length);
            }
            boolean edge = signal != null && signal.event;
            if (which == RISING) {
                edge = edge && signal.now.ones() != 0 && signal.last.zeros() != 0;
            } else {
                edge = edge && signal.now.zeros() != 0 && signal.last.ones() != 0;
            }
            down(0).beNumber(edge ? 1 : 0);
            return 0;
        }

        private static int toNumber(Datum row) {
            if (row.is != ROW) {
                return F_CLASS;
            }
            long number = row.ones();
            if (!row.isClear() || number < 0 || number > GREATEST) {
                return F_BEYOND;
            }
            row.beNumber(number);
            return 0;
        }

        private static int toRow(Datum number, int length) {
            if (number.is != NUMBER) {
                return F_CLASS;
            }
            number.hold(ROW, length, number.number, -1L, 0, 0);
            return 0;
        }

        private void ofSignal(int which, Thing signal) {
            if (signal == null) {
                return;
            }
            if (which == LAST_VALUE) {
                down(0).copy(signal.last);
            } else {
                boolean truth = which == EVENT ? signal.event : signal.active;
                down(0).beNumber(truth ? 1 : 0);
            }
        }

        private static int time(int unit, Datum of) {
            if (of.is != NUMBER) {
                return F_CLASS;
            }
            if (of.number < 0) {
                return F_RANGE;
            }
            of.beNumber(of.number * unit);
            return 0;
        }

        private static int one(int which, Datum of) {
            if (of.is != NUMBER) {
                if (which == NOT) {
                    settle(of, of.ones(), of.zeros(), of.unset());
                    return 0;
                }
                return F_CLASS;
            }
            if (which == NOT) {
                of.beNumber(of.number == 0 ? 1 : 0);
            } else if (which == MINUS || which == SIZE && of.number < 0) {
                of.beNumber(-of.number);
            }
            return 0;
        }

        /** ZERO, ONE and U where they are told, X elsewhere. */
        private static void settle(Datum datum, long zeros, long ones, long unset) {
            long unknown = ~(zeros | ones | unset);
            datum.hold(datum.is, datum.length, ones | unknown, zeros | ones, 0, 0);
        }

        /** What two values make stands in the first one then, as everywhere below. */
        private static int two(int which, Datum a, Datum b) {
            switch (which) {
                case AND:
                case OR:
                case AND_TURNED:
                case OR_TURNED:
                case OTHER:
                case OTHER_TURNED:
                    return a.is == NUMBER ? truths(which, a, b) : logics(which, a, b);
                case SAME:
                case NOT_SAME:
                    return same(which == SAME, a, b);
                case LESS:
                case NOT_MORE:
                case MORE:
                case NOT_LESS:
                    return order(which, a, b);
                case SUM:
                case DIFFERENCE:
                    return a.is == NUMBER && b.is == NUMBER ? numbers(which, a, b) : rows(which, a, b);
                case JOINED:
                    return joined(a, b);
                case TO_THE_LEFT:
                case TO_THE_RIGHT:
                    return shifted(which, a, b);
                default:
                    return numbers(which, a, b);
            }
        }

        private static int truths(int which, Datum a, Datum b) {
            if (b.is != NUMBER) {
                return F_CLASS;
            }
            boolean first = a.number != 0;
            boolean second = b.number != 0;
            boolean truth = which == AND || which == AND_TURNED ? first && second
                    : which == OR || which == OR_TURNED ? first || second : first != second;
            a.beNumber(truth != isTurned(which) ? 1 : 0);
            return 0;
        }

        private static boolean isTurned(int which) {
            return which == AND_TURNED || which == OR_TURNED || which == OTHER_TURNED;
        }

        private static int logics(int which, Datum a, Datum b) {
            if (a.unlike(b) != 0) {
                return a.unlike(b);
            }
            long unset = a.unset() | b.unset();
            long zeros;
            long ones;
            if (which == AND || which == AND_TURNED) {
                zeros = a.zeros() | b.zeros();
                ones = a.ones() & b.ones();
            } else if (which == OR || which == OR_TURNED) {
                zeros = a.zeros() & b.zeros();
                ones = a.ones() | b.ones();
            } else {
                zeros = a.zeros() & b.zeros() | a.ones() & b.ones();
                ones = a.zeros() & b.ones() | a.ones() & b.zeros();
            }
            boolean turned = isTurned(which);
            long unknown = ~(zeros | ones | unset);
            a.hold(a.is, a.length, (turned ? zeros : ones) | unknown, zeros | ones, 0, 0);
            return 0;
        }

        private static int same(boolean wanted, Datum a, Datum b) {
            int unlike = a.unlike(b);
            if (unlike == 0) {
                a.beNumber(a.isSame(b) == wanted ? 1 : 0);
            }
            return unlike;
        }

        private static int order(int which, Datum a, Datum b) {
            if (a.is == LOGIC || a.unlike(b) != 0) {
                return a.is == LOGIC ? F_CLASS : a.unlike(b);
            }
            // Turning the highest bit makes the order of the numbers of rows, which have no sign, that of longs.
            long first = a.is == NUMBER ? a.number : a.ones() ^ Long.MIN_VALUE;
            long second = a.is == NUMBER ? b.number : b.ones() ^ Long.MIN_VALUE;
            boolean known = a.is == NUMBER || a.isClear() && b.isClear();
            boolean less = which == LESS && first < second || which == NOT_MORE && first <= second;
            boolean more = which == MORE && first > second || which == NOT_LESS && first >= second;
            a.beNumber(known && (less || more) ? 1 : 0);
            return 0;
        }

        private static int rows(int which, Datum a, Datum b) {
            if (a.is == LOGIC || b.is == LOGIC) {
                return F_CLASS;
            }
            if (a.is == b.is && a.length != b.length) {
                return F_LENGTH;
            }
            int length = a.is == ROW ? a.length : b.length;
            long first = a.is == ROW ? a.ones() : a.number;
            long second = b.is == ROW ? b.ones() : b.number;
            if (a.is == ROW && !a.isClear() || b.is == ROW && !b.isClear()) {
                a.hold(ROW, length, -1L, 0, 0, 0);
            } else {
                a.hold(ROW, length, which == SUM ? first + second : first - second, -1L, 0, 0);
            }
            return 0;
        }

        private static int joined(Datum a, Datum b) {
            if (a.is == NUMBER || b.is == NUMBER) {
                return F_CLASS;
            }
            if (a.length + b.length > MOST_ELEMENTS) {
                return F_LENGTH;
            }
            int by = b.length;
            a.hold(ROW, a.length + by, a.bit0 << by | b.bit0, a.bit1 << by | b.bit1, a.bit2 << by | b.bit2,
                    a.bit3 << by | b.bit3);
            return 0;
        }

        private static int shifted(int which, Datum a, Datum b) {
            if (a.is != ROW || b.is != NUMBER) {
                return F_CLASS;
            }
            long by = which == TO_THE_LEFT ? b.number : -b.number;
            int n = (int) Math.min(Math.abs(by), a.length);
            // ZEROs come in, of whose code only bit 1 is set.
            if (n == a.length) {
                a.hold(ROW, n, 0, -1L, 0, 0);
            } else if (by >= 0) {
                a.hold(ROW, a.length, a.bit0 << n, a.bit1 << n | (1L << n) - 1, a.bit2 << n, a.bit3 << n);
            } else {
                long comeIn = ~(-1L >>> (MOST_ELEMENTS - a.length) >>> n);
                a.hold(ROW, a.length, a.bit0 >>> n, a.bit1 >>> n | comeIn, a.bit2 >>> n, a.bit3 >>> n);
            }
            return 0;
        }

        private static int numbers(int which, Datum a, Datum b) {
            if (a.is != NUMBER || b.is != NUMBER) {
                return F_CLASS;
            }
            long answer;
            if (which == SUM) {
                answer = a.number + b.number;
            } else if (which == DIFFERENCE) {
                answer = a.number - b.number;
            } else if (which == PRODUCT) {
                answer = a.number * b.number;
            } else if (b.number == 0) {
                return F_BY_ZERO;
            } else {
                answer = which == QUOTIENT ? a.number / b.number
                        : which == MODULUS ? Math.floorMod(a.number, b.number) : a.number % b.number;
            }
            if (answer < LEAST || answer > GREATEST) {
                return F_BEYOND;
            }
            a.beNumber(answer);
            return 0;
        }
    }

    /** Does the steps of processes. Each statement's method tells whether the process goes on. */
    private static final class Runner {
        private final Things signals;
        private final Told told;
        private final Finder finder;
        private final Datum chosen;
        private final Datum[] waves;
        private final long[] delays;
        private Thing target;
        private int targetNumber;
        private int targetClass;
        private int targetFirst;
        private int targetMany;

        Runner(Things signals, Told told) {
            this.signals = signals;
            this.told = told;
            finder = new Finder(signals);
            chosen = new Datum();
            waves = new Datum[MOST_WAVES];
            for (int i = 0; i < waves.length; i++) {
                waves[i] = new Datum();
            }
            delays = new long[MOST_WAVES];
        }

        boolean step(Unit unit) {
            int v = unit.at;
            unit.countStep();
            if (unit.task == AT_BODY) {
                return unit.goInto(unit.nodes.count - 1);
            }
            if (unit.task == AT_LOOK) {
                return look(unit, v);
            }
            switch (unit.nodes.kindOf(v)) {
                case K_ASSIGN:
                    return assign(unit, v);
                case K_SET:
                    return keep(unit, v);
                case K_IF:
                    return choose(unit, v);
                case K_CASE:
                    return compare(unit, v);
                case K_UP:
                case K_DOWN:
                    return beginCount(unit, v);
                case K_WHILE:
                case K_LOOP:
                    return unit.goToLook(v);
                case K_EXIT:
                case K_NEXT:
                    return leave(unit, v);
                case K_WAIT:
                    return pause(unit, v);
                case K_REPORT:
                    return findNumber(unit, v, 0) && tell(unit, v);
                case K_ASSERT:
                    return check(unit, v);
                default:
                    return unit.goBehind(v);
            }
        }

        /** 1 or 0, or 2 when there is a fault, which ends the process. */
        int waitIsOver(Unit unit) {
            if (!unit.waitsForExpression()) {
                return 1;
            }
            if (!findNumber(unit, unit.waitNode, 1)) {
                return 2;
            }
            return finder.found().number != 0 ? 1 : 0;
        }

        /** Finds a statement's child that must be a NUMBER. */
        private boolean findNumber(Unit unit, int v, int kid) {
            if (!finder.find(unit, unit.nodes.kid(v, kid))) {
                return false;
            }
            return finder.isNumber() || unit.fail(F_CLASS, v);
        }

        private boolean assign(Unit unit, int v) {
            Nodes nodes = unit.nodes;
            int mode = nodes.givenOf(v);
            int from = mode == MODE_WITH_LIMIT ? 2 : 1;
            int many = Math.min(nodes.kidsOf(v) - from, MOST_WAVES);
            long limit = 0;
            if (!aim(unit, nodes.kid(v, 0))) {
                return false;
            }
            if (mode == MODE_WITH_LIMIT) {
                if (!finder.find(unit, nodes.kid(v, 1))) {
                    return false;
                }
                limit = finder.found().number;
            }
            for (int w = 0; w < many; w++) {
                if (!findWave(unit, nodes.kid(v, from + w), w)) {
                    return false;
                }
            }
            if (!isRising(limit, many)) {
                return unit.fail(F_TIMES, v);
            }
            if (!told.hasRoomFor(many)) {
                return unit.fail(F_TOO_MUCH, v);
            }
            told.tellAssign(targetNumber, targetFirst, targetMany, mode, limit);
            for (int w = 0; w < many; w++) {
                told.tellValue(waves[w], delays[w]);
            }
            return unit.goBehind(v);
        }

        private boolean aim(Unit unit, int v) {
            Nodes nodes = unit.nodes;
            int kind = nodes.kindOf(v);
            int of = kind == K_ELEMENT || kind == K_PART ? nodes.kid(v, 0) : v;
            targetNumber = nodes.givenOf(of);
            target = nodes.kindOf(of) == K_SIGNAL ? signals.pick(targetNumber) : unit.variables.pick(targetNumber);
            targetClass = target == null ? NONE : target.is;
            targetFirst = 0;
            targetMany = target == null ? 0 : target.length;
            if (kind == K_PART) {
                targetFirst = nodes.givenOf(nodes.kid(v, 1));
                targetMany = nodes.givenOf(nodes.kid(v, 2));
            } else if (kind == K_ELEMENT) {
                if (!finder.find(unit, nodes.kid(v, 1))) {
                    return false;
                }
                if (!finder.isNumber()) {
                    return unit.fail(F_CLASS, v);
                }
                long which = finder.found().number;
                if (which < 0 || which >= targetMany) {
                    return unit.fail(F_ELEMENT, v);
                }
                targetClass = LOGIC;
                targetFirst = (int) which;
                targetMany = 1;
            }
            return true;
        }

        /** What forbids to give the target what has been found. */
        private int unfit() {
            Datum datum = finder.found();
            if (target == null || datum.is != targetClass) {
                return F_CLASS;
            }
            if (datum.length != targetMany) {
                return F_LENGTH;
            }
            return datum.is == NUMBER && !target.allows(datum.number) ? F_RANGE : 0;
        }

        private boolean findWave(Unit unit, int v, int w) {
            if (w < 0 || w >= waves.length || !finder.find(unit, unit.nodes.kid(v, 0))) {
                return false;
            }
            int unfit = unfit();
            if (unfit != 0) {
                return unit.fail(unfit, v);
            }
            waves[w].copy(finder.found());
            if (!finder.find(unit, unit.nodes.kid(v, 1))) {
                return false;
            }
            delays[w] = finder.found().number;
            return true;
        }

        private boolean isRising(long limit, int many) {
            for (int w = 1; w < many && w < delays.length; w++) {
                if (delays[w] <= delays[w - 1]) {
                    return false;
                }
            }
            return limit <= delays[0];
        }

        private boolean keep(Unit unit, int v) {
            if (!aim(unit, unit.nodes.kid(v, 0)) || !finder.find(unit, unit.nodes.kid(v, 1))) {
                return false;
            }
            int unfit = unfit();
            if (unfit != 0) {
                return unit.fail(unfit, v);
            }
            if (target != null && targetClass == NUMBER) {
                target.now.beNumber(finder.found().number);
            } else if (target != null) {
                target.now.overlay(targetFirst, finder.found());
            }
            return unit.goBehind(v);
        }

        private boolean choose(Unit unit, int v) {
            int kids = unit.nodes.kidsOf(v);
            for (int i = 0; i + 1 < kids; i += 2) {
                if (!findNumber(unit, v, i)) {
                    return false;
                }
                if (finder.found().number != 0) {
                    return unit.goInto(unit.nodes.kid(v, i + 1));
                }
            }
            return kids % 2 != 0 ? unit.goInto(unit.nodes.kid(v, kids - 1)) : unit.goBehind(v);
        }

        private boolean compare(Unit unit, int v) {
            if (!finder.find(unit, unit.nodes.kid(v, 0))) {
                return false;
            }
            chosen.copy(finder.found());
            for (int i = 1; i < unit.nodes.kidsOf(v); i++) {
                int choice = unit.nodes.kid(v, i);
                int list = unit.nodes.kid(choice, 0);
                for (int j = 0; j < unit.nodes.kidsOf(list); j++) {
                    int item = unit.nodes.kid(list, j);
                    if (unit.nodes.kindOf(item) == K_OTHERS) {
                        return unit.goInto(unit.nodes.kid(choice, 1));
                    }
                    if (!finder.find(unit, item)) {
                        return false;
                    }
                    int unlike = chosen.unlike(finder.found());
                    if (unlike != 0) {
                        return unit.fail(unlike, choice);
                    }
                    if (chosen.isSame(finder.found())) {
                        return unit.goInto(unit.nodes.kid(choice, 1));
                    }
                }
            }
            return unit.fail(F_NO_CHOICE, v);
        }

        private boolean beginCount(Unit unit, int v) {
            if (!findNumber(unit, v, 1)) {
                return false;
            }
            long from = finder.found().number;
            if (!findNumber(unit, v, 2)) {
                return false;
            }
            unit.beginCount(v, from, finder.found().number);
            return unit.goToLook(v);
        }

        private boolean look(Unit unit, int v) {
            int kind = unit.nodes.kindOf(v);
            if (kind == K_LOOP) {
                return unit.goInto(unit.nodes.kid(v, 0));
            }
            if (kind == K_WHILE) {
                if (!findNumber(unit, v, 0)) {
                    return false;
                }
                return finder.found().number != 0 ? unit.goInto(unit.nodes.kid(v, 1)) : unit.goBehind(v);
            }
            if (unit.isCountOver(v)) {
                return unit.goBehind(v);
            }
            Thing counter = unit.variables.pick(unit.nodes.givenOf(unit.nodes.kid(v, 0)));
            long number = unit.countOn(v);
            if (counter == null || !counter.allows(number)) {
                return unit.fail(F_RANGE, v);
            }
            counter.now.beNumber(number);
            return unit.goInto(unit.nodes.kid(v, 3));
        }

        private boolean leave(Unit unit, int v) {
            boolean leaves = true;
            if (unit.nodes.kindOf(unit.nodes.kid(v, 0)) != K_NOTHING) {
                if (!findNumber(unit, v, 0)) {
                    return false;
                }
                leaves = finder.found().number != 0;
            }
            if (!leaves) {
                return unit.goBehind(v);
            }
            int loop = unit.nodes.loopOf(v);
            return unit.nodes.kindOf(v) == K_EXIT ? unit.goBehind(loop) : unit.goToLook(loop);
        }

        private boolean pause(Unit unit, int v) {
            int time = unit.nodes.kid(v, 2);
            if (unit.nodes.kindOf(time) == K_NOTHING) {
                return unit.waitAt(v, NONE);
            }
            return finder.find(unit, time) && unit.waitAt(v, finder.found().number);
        }

        private boolean check(Unit unit, int v) {
            if (!findNumber(unit, v, 0)) {
                return false;
            }
            if (finder.found().number != 0) {
                return unit.goBehind(v);
            }
            return findNumber(unit, v, 1) && tell(unit, v);
        }

        private boolean tell(Unit unit, int v) {
            if (!told.hasRoomFor(0)) {
                return unit.fail(F_TOO_MUCH, v);
            }
            told.tellReport((int) finder.found().number);
            return unit.goBehind(v);
        }
    }
}
