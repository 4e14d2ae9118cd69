/** The edges that promises 1 to 11 name, sentence by sentence: signals, variables, nodes, processes, values. */
public final class EdgesOfPromises1To11Test {
    private static final int BIG = Kit.BIG;
    private static final int BEYOND = Integer.MIN_VALUE;
    private static Kit kit;

    public static void main(String[] args) {
        kit = new Kit("EdgesOfPromises1To11Test");
        newObject();
        classes("Promise 2", true);
        wrongClasses(true);
        signalsAreFull();
        classes("Promise 3", false);
        wrongClasses(false);
        variablesAreFull();
        variablesOfTheNextOne();
        nodes();
        wrongNodes();
        nodesAreFull();
        processWithVariables();
        usedUp();
        firstWrong();
        notOneTree();
        processesAreFull();
        nodesTogether();
        howMany();
        puts();
        wrongPuts();
        marks();
        gets();
        sets();
        setsAgain();
        variablesOf();
        for (int promise = 1; promise <= 11; promise++) {
            kit.same("promise " + promise + " is looked at", kit.hasSaid("Promise " + promise) ? 1 : 0, 1);
        }
        kit.end();
    }

    private static void newObject() {
        kit.says("Promise 1", "No signals, no processes, no nodes.");
        StepCode x = new StepCode();
        kit.fails("no signal 0", Kit.INDEX, () -> x.get(0, 0));
        kit.fails("no signal to be marked", Kit.INDEX, () -> x.mark(0, false, false));
        kit.same("no processes", x.processes(), 0);
        kit.fails("no process 0", Kit.INDEX, () -> x.about(0, 0));
        kit.same("no acts", x.acts(), 0);
        kit.fails("no tree", Kit.ARGUMENT, () -> x.add(48, 0, 1));
        kit.same("no node", x.process(), -1);
        StepCode other = new StepCode();
        x.signal(0, 0, 0);
        x.add(48, 0, 0);
        x.process();
        kit.same("another object has its own", other.processes(), 0);
        kit.fails("and its own signals", Kit.INDEX, () -> other.get(0, 0));
    }

    private static int object(StepCode x, boolean signal, int is, int a, int b) {
        return signal ? x.signal(is, a, b) : x.variable(is, a, b);
    }

    private static int read(StepCode x, boolean signal, int which, int k) {
        return signal ? x.get(which, k) : x.variableOf(0, which, k);
    }

    private static void classes(String promise, boolean signal) {
        kit.says(promise, signal ? "A signal of a class: a ROW of a elements, NUMBERs from a to b (what does not count "
                + "is 0). Its number." : "Likewise a variable of the process that is being made.");
        int[][] right = {{0, 0, 0}, {1, 1, 0}, {1, 2, 0}, {1, 63, 0}, {1, 64, 0}, {2, 0, 0}, {2, -1, 0}, {2, 0, 1},
            {2, -BIG, BIG}, {2, -BIG, -BIG}, {2, BIG, BIG}};
        StepCode x = new StepCode();
        for (int i = 0; i < right.length; i++) {
            kit.same("its number", object(x, signal, right[i][0], right[i][1], right[i][2]), i);
        }
        kit.same("a process", Kit.make(x, Kit.pause()), 0);
        for (int i = 0; i < right.length; i++) {
            int which = i;
            int length = right[i][0] == 1 ? right[i][1] : 1;
            kit.same("its last element", read(x, signal, which, length - 1), right[i][0] == 2 ? right[i][1] : 0);
            kit.fails("no element more", Kit.INDEX, () -> read(x, signal, which, length));
        }
        kit.fails("no object more", Kit.INDEX, () -> read(x, signal, right.length, 0));
    }

    private static void wrongClasses(boolean signal) {
        if (signal) {
            kit.says("Promise 2", "IllegalArgumentException when there is no such class, a is not 1 .. 64 for a ROW, a "
                    + "above b, or one of both beyond, for NUMBERs, or what does not count is not 0;");
        } else {
            kit.says("Promise 3", "IllegalArgumentException;");
        }
        int[][] wrong = {
            {-1, 0, 0}, {3, 0, 0}, {BIG, 0, 0}, {BEYOND, 0, 0}, {-1, 1, 0}, {3, 1, 1},
            {1, 0, 0}, {1, 65, 0}, {1, -1, 0}, {1, BIG, 0}, {1, BEYOND, 0},
            {2, 1, 0}, {2, 0, -1}, {2, BIG, -BIG}, {2, BIG, BIG - 1}, {2, -BIG + 1, -BIG},
            {2, BEYOND, 0}, {2, BEYOND, BIG}, {2, BEYOND, BEYOND}, {2, 0, BEYOND}, {2, -BIG, BEYOND},
            {0, 1, 0}, {0, 0, 1}, {0, -1, 0}, {0, 0, -1}, {0, BEYOND, BEYOND}, {0, 1, 1},
            {1, 4, 1}, {1, 4, -1}, {1, 1, 1}, {1, 64, BIG}, {1, 64, BEYOND}, {1, 4, 4}};
        StepCode x = new StepCode();
        for (int[] w : wrong) {
            kit.fails(w[0] + ", " + w[1] + ", " + w[2], Kit.ARGUMENT, () -> object(x, signal, w[0], w[1], w[2]));
        }
        kit.same("none was made", object(x, signal, 0, 0, 0), 0);
    }

    private static void signalsAreFull() {
        kit.says("Promise 2", "IllegalStateException when there are 512.");
        StepCode x = new StepCode();
        for (int i = 0; i < 512; i++) {
            kit.same("signal " + i, x.signal(2, i, i), i);
        }
        // Beyond an object's 512 calls all is free; this class keeps the limit even so.
        kit.fails("one more", Kit.STATE, () -> x.signal(0, 0, 0));
        kit.fails("one more, also wrong", Kit.ARGUMENT, () -> x.signal(0, 0, 1));
        kit.same("the last one", x.get(511, 0), 511);
        kit.fails("no signal 512", Kit.INDEX, () -> x.get(512, 0));
    }

    private static void variablesAreFull() {
        kit.says("Promise 3", "IllegalStateException when that has 128.");
        StepCode x = new StepCode();
        for (int i = 0; i < 128; i++) {
            kit.same("variable " + i, x.variable(2, i, i), i);
        }
        kit.fails("one more", Kit.STATE, () -> x.variable(0, 0, 0));
        kit.fails("one more, also wrong", Kit.ARGUMENT, () -> x.variable(3, 0, 0));
        kit.same("a signal can be made", x.signal(0, 0, 0), 0);
        Kit.Tree last = Kit.report(Kit.var(127));
        kit.same("a process of them", Kit.make(x, last, Kit.pause()), 0);
        x.resume(0, 9);
        kit.same("the last one is read", Kit.reports(x), "127");
        kit.same("and told", x.variableOf(0, 127, 0), 127);
        kit.fails("no variable 128", Kit.INDEX, () -> x.variableOf(0, 128, 0));
    }

    private static void variablesOfTheNextOne() {
        kit.says("Promise 3", "Likewise a variable of the process that is being made.");
        StepCode x = new StepCode();
        for (int round = 0; round < 3; round++) {
            for (int i = 0; i < 128; i++) {
                kit.same("variable " + i, x.variable(0, 0, 0), i);
            }
            kit.fails("one more", Kit.STATE, () -> x.variable(0, 0, 0));
            // What is no process uses them up too.
            kit.same("process", round == 1 ? x.process() : Kit.make(x), round == 1 ? -1 : round / 2);
        }
        kit.same("two processes", x.processes(), 2);
    }

    private static void nodes() {
        kit.says("Promise 4", "A node, whose children are the latest n trees: its number.");
        StepCode x = new StepCode();
        for (int i = 0; i < 10; i++) {
            kit.same("a leaf", x.add(2, i, 0), i);
        }
        kit.same("none of them", x.add(2, 7, 0), 10);
        kit.same("all of them", x.add(48, 0, 11), 11);
        kit.fails("one tree is left", Kit.ARGUMENT, () -> x.add(48, 0, 2));
        kit.same("that one", x.add(48, 0, 1), 12);
        StepCode y = new StepCode();
        y.add(2, 1, 0);
        y.add(2, 2, 0);
        y.add(46, 0, 1);
        kit.same("the latest one", y.process(), -3);
        StepCode z = new StepCode();
        for (int kind = 0; kind <= 99; kind++) {
            kit.same("kind " + kind, z.add(kind, kind % 2 == 0 ? BIG : BEYOND, 0), kind);
        }
    }

    private static void wrongNodes() {
        kit.says("Promise 4", "IllegalArgumentException when the kind is not 0 .. 99, or n is below 0, or there "
                + "are not so many trees;");
        StepCode x = new StepCode();
        for (int kind : new int[] {-1, 100, BIG, BEYOND}) {
            kit.fails("kind " + kind, Kit.ARGUMENT, () -> x.add(kind, 0, 0));
        }
        for (int n : new int[] {-1, 1, 4000, BIG, BEYOND}) {
            kit.fails(n + " of no trees", Kit.ARGUMENT, () -> x.add(48, 0, n));
        }
        kit.same("node 0", x.add(0, 0, 0), 0);
        kit.same("node 1", x.add(99, 0, 0), 1);
        for (int n : new int[] {-1, 3, BIG, BEYOND}) {
            kit.fails(n + " of two trees", Kit.ARGUMENT, () -> x.add(48, 0, n));
        }
        kit.same("node 2", x.add(48, 0, 2), 2);
    }

    private static void nodesAreFull() {
        kit.says("Promise 4", "IllegalStateException when there are 4000.");
        // Beyond an object's 512 calls all is free; this class keeps the limit even so.
        StepCode x = new StepCode();
        for (int i = 0; i < 3999; i++) {
            x.add(45, 0, 0);
        }
        kit.same("the last one", x.add(48, 0, 3999), 3999);
        kit.fails("one more", Kit.STATE, () -> x.add(45, 0, 0));
        kit.fails("one more, of a wrong kind", Kit.ARGUMENT, () -> x.add(100, 0, 0));
        kit.fails("one more, of too many trees", Kit.ARGUMENT, () -> x.add(48, 0, 2));
        kit.same("a process of 4000", x.process(), 0);
        kit.same("node 0 again", x.add(45, 0, 0), 0);
        kit.same("it goes", x.resume(0, 4000), StepCode.STOPPED);
    }

    private static void processWithVariables() {
        kit.says("Promise 5", "The only tree is made a process, with the variables that there are;");
        StepCode x = new StepCode();
        kit.same("with none", Kit.make(x, Kit.pause()), 0);
        kit.fails("it has none", Kit.INDEX, () -> x.variableOf(0, 0, 0));
        x.variable(2, 5, 6);
        kit.same("with one, made before its nodes", Kit.make(x, Kit.report(Kit.var(0)), Kit.pause()), 1);
        Kit.list(Kit.report(Kit.var(0)), Kit.report(Kit.var(1)), Kit.pause()).plant(x);
        x.variable(2, 7, 8);
        x.variable(2, 9, 9);
        kit.same("with two, made behind its nodes", x.process(), 2);
        x.resume(1, 9);
        kit.same("its own", Kit.reports(x), "5");
        x.resume(2, 9);
        kit.same("its own", Kit.reports(x), "7 9");
    }

    private static void usedUp() {
        kit.says("Promise 5", "both are used up then, also when it is none (the next nodes are numbered from 0 "
                + "on again).");
        StepCode x = new StepCode();
        for (int round = 0; round < 4; round++) {
            boolean is = round % 2 == 0;
            kit.same("its variables", x.variable(2, round, 9), 0);
            kit.same("its first node", x.add(45, 0, 0), 0);
            kit.same("its second node", x.add(is ? 48 : 46, 0, 1), 1);
            kit.same("process", x.process(), is ? round / 2 : -2);
            kit.fails("no tree is left", Kit.ARGUMENT, () -> x.add(48, 0, 1));
        }
        kit.same("none uses nothing up", x.process(), -1);
        x.add(80, 0, 0);
        x.add(46, 0, 1);
        x.add(48, 0, 1);
        kit.same("signals are not used up", x.signal(2, 0, 9), 0);
        kit.same("process", x.process(), 2);
        Kit.list(Kit.report(Kit.var(0))).plant(x);
        kit.same("a variable is", x.process(), -1);
    }

    private static void firstWrong() {
        kit.says("Promise 5", "when a node is WRONG, -1 less the first such one;");
        for (int at = 0; at < 10; at++) {
            StepCode x = new StepCode();
            for (int i = 0; i < 10; i++) {
                x.add(i >= at ? 99 : 45, 0, 0);
            }
            x.add(48, 0, 10);
            kit.same("node " + at, x.process(), -1 - at);
            kit.same("no process", x.processes(), 0);
        }
        StepCode y = new StepCode();
        y.add(45, 0, 0);
        y.add(48, 1, 1);
        kit.same("the last one", y.process(), -2);
        y.add(45, 0, 0);
        y.add(45, 0, 0);
        y.add(45, 7, 0);
        y.add(45, 0, 0);
        kit.same("also if there is not one tree", y.process(), -3);
    }

    private static void notOneTree() {
        kit.says("Promise 5", "when there is not one tree that is a LIST of statements (48, all of whose children are "
                + "statements), -1 less the last node (-1 for none).");
        StepCode x = new StepCode();
        kit.same("none", x.process(), -1);
        x.add(48, 0, 0);
        x.add(48, 0, 0);
        kit.same("two LISTs", x.process(), -2);
        x.add(48, 0, 0);
        x.add(48, 0, 0);
        x.add(48, 0, 0);
        kit.same("three LISTs", x.process(), -3);
        x.add(45, 0, 0);
        kit.same("a statement", x.process(), -1);
        x.add(2, 1, 0);
        x.add(46, 0, 1);
        kit.same("a larger statement", x.process(), -2);
        x.add(0, 0, 0);
        x.add(48, 0, 1);
        kit.same("a LIST of NOTHING", x.process(), -2);
        x.add(45, 0, 0);
        x.add(48, 0, 1);
        x.add(45, 0, 0);
        kit.same("a LIST and a statement", x.process(), -3);
        x.add(45, 0, 0);
        x.add(2, 1, 0);
        x.add(48, 0, 1);
        kit.same("a LIST of the last tree alone", x.process(), -3);
        x.add(48, 0, 0);
        kit.same("an empty LIST is one", x.process(), 0);
    }

    private static void processesAreFull() {
        kit.says("Promise 5", "IllegalStateException when there are 64 processes, or they would have more than "
                + "20000 nodes together (looked at first, also if it would be none).");
        StepCode x = new StepCode();
        for (int i = 0; i < 64; i++) {
            x.add(48, 0, 0);
            kit.same("process " + i, x.process(), i);
            x.add(99, 0, 0);
            if (i < 63) {
                kit.same("none in between", x.process(), -1);
            }
        }
        kit.fails("also if it is none", Kit.STATE, () -> x.process());
        kit.same("its nodes are still there", x.add(48, 0, 1), 1);
        kit.fails("and again", Kit.STATE, () -> x.process());
        kit.same("64", x.processes(), 64);
        kit.same("the last one", x.resume(63, 1), StepCode.STOPPED);
        StepCode y = new StepCode();
        for (int i = 0; i < 64; i++) {
            Kit.make(y);
        }
        kit.fails("also if there are no nodes", Kit.STATE, () -> y.process());
        y.add(48, 0, 0);
        kit.fails("also if it were one", Kit.STATE, () -> y.process());
        kit.same("its variables and nodes are still there", y.variable(0, 0, 0) * 10 + y.add(48, 0, 0), 1);
    }

    private static void nodesTogether() {
        // Beyond an object's 512 calls all is free; this class keeps the limit even so.
        for (int last : new int[] {3999, 4000}) {
            StepCode x = new StepCode();
            for (int p = 0; p < 4; p++) {
                plantList(x, 4000);
                kit.same("4000 more", x.process(), p);
            }
            plantList(x, last);
            kit.same("up to " + (16000 + last), x.process(), 4);
            x.add(48, 0, 0);
            if (last == 3999) {
                kit.same("20000", x.process(), 5);
                x.add(99, 0, 0);
            }
            kit.fails("20001", Kit.STATE, () -> x.process());
        }
        StepCode y = new StepCode();
        for (int p = 0; p < 6; p++) {
            for (int i = 0; i < 4000; i++) {
                y.add(2, 0, 0);
            }
            kit.same("what is none does not count", y.process(), -4000);
        }
    }

    private static void plantList(StepCode x, int nodes) {
        for (int i = 1; i < nodes; i++) {
            x.add(45, 0, 0);
        }
        x.add(48, 0, nodes - 1);
    }

    private static void howMany() {
        kit.says("Promise 6", "How many processes there are.");
        StepCode x = new StepCode();
        kit.same("none", x.processes(), 0);
        for (int i = 1; i <= 64; i++) {
            x.add(48, 0, 0);
            kit.same("not yet", x.processes(), i - 1);
            x.process();
            kit.same("as many", x.processes(), i);
        }
        x.resume(0, 1);
        kit.same("also those that have ended", x.processes(), 64);
    }

    private static StepCode threeSignals() {
        StepCode x = new StepCode();
        x.signal(0, 0, 0);
        x.signal(1, 64, 0);
        x.signal(2, -5, 5);
        return x;
    }

    private static void puts() {
        kit.says("Promise 7", "Element k of a signal's value, or of its last value, becomes another one (k is 0 "
                + "but for rows). IndexOutOfBoundsException;");
        StepCode x = threeSignals();
        Kit.make(x, Kit.report(Kit.t(85, 17, Kit.sig(2))),
                Kit.report(Kit.two(6, Kit.t(85, 17, Kit.sig(0)), Kit.sig(0))),
                Kit.report(Kit.two(6, Kit.t(85, 17, Kit.sig(1)), Kit.sig(1))), Kit.pause());
        x.put(1, true, 63, 8);
        x.put(1, true, 0, 1);
        kit.same("the value is as it was", x.get(1, 63) + x.get(1, 0), 0);
        x.resume(0, 9);
        kit.same("the last value is not the value", Kit.reports(x), "-5 1 0");
        x.put(1, false, 63, 8);
        x.put(1, false, 0, 1);
        x.put(0, false, 0, 8);
        x.put(2, false, 0, 5);
        x.resume(0, 9);
        kit.same("both are the same", Kit.reports(x), "-5 0 1");
        kit.same("the ends of the row", x.get(1, 63) * 100 + x.get(1, 62) * 10 + x.get(1, 0), 801);
        for (int from = 0; from <= 8; from++) {
            for (int to = 0; to <= 8; to++) {
                x.put(1, false, 32, from);
                x.put(1, false, 32, to);
                kit.same("from " + from + " to " + to, x.get(1, 32), to);
            }
        }
        kit.same("its neighbours stay", x.get(1, 33) + x.get(1, 31), 0);
        int[][] none = {{-1, 0}, {3, 0}, {BIG, 0}, {BEYOND, 0}, {0, 1}, {0, -1}, {1, 64}, {1, -1}, {1, BIG},
            {1, BEYOND}, {2, 1}, {2, -1}};
        for (int[] n : none) {
            kit.fails("no " + n[0] + ", " + n[1], Kit.INDEX, () -> x.put(n[0], false, n[1], 2));
            kit.fails("no last " + n[0] + ", " + n[1], Kit.INDEX, () -> x.put(n[0], true, n[1], 2));
        }
    }

    private static void wrongPuts() {
        kit.says("Promise 7", "IllegalArgumentException when it can't have that.");
        StepCode x = threeSignals();
        for (int last = 0; last <= 1; last++) {
            boolean ofLast = last == 1;
            for (int value : new int[] {-1, 9, BIG, BEYOND}) {
                kit.fails("LOGIC " + value, Kit.ARGUMENT, () -> x.put(0, ofLast, 0, value));
                kit.fails("element " + value, Kit.ARGUMENT, () -> x.put(1, ofLast, 63, value));
            }
            for (int value : new int[] {-6, 6, -BIG, BIG, BEYOND}) {
                kit.fails("NUMBER " + value, Kit.ARGUMENT, () -> x.put(2, ofLast, 0, value));
            }
            for (int value : new int[] {0, 8}) {
                x.put(0, ofLast, 0, value);
                x.put(1, ofLast, 63, value);
            }
            for (int value : new int[] {-5, 5}) {
                x.put(2, ofLast, 0, value);
            }
        }
        kit.same("what was put last", x.get(0, 0) * 100 + x.get(1, 63) * 10 + x.get(2, 0), 885);
    }

    private static void marks() {
        kit.says("Promise 8", "Whether a signal has an event, and is active. IndexOutOfBoundsException.");
        StepCode x = threeSignals();
        Kit.make(x, Kit.report(Kit.t(85, 15, Kit.sig(0))), Kit.report(Kit.t(85, 16, Kit.sig(0))),
                Kit.report(Kit.t(85, 15, Kit.sig(2))), Kit.report(Kit.t(85, 16, Kit.sig(2))), Kit.pause());
        String[] due = {"0 0", "1 0", "0 1", "1 1"};
        for (int a = 0; a < 4; a++) {
            for (int b = 3; b >= 0; b--) {
                x.mark(0, a % 2 == 1, a >= 2);
                x.mark(2, b % 2 == 1, b >= 2);
                x.resume(0, 9);
                kit.same("each its own", Kit.reports(x), due[a] + " " + due[b]);
            }
        }
        x.resume(0, 9);
        kit.same("they stay", Kit.reports(x), "1 1 0 0");
        for (int signal : new int[] {-1, 3, 512, BIG, BEYOND}) {
            kit.fails("no signal " + signal, Kit.INDEX, () -> x.mark(signal, true, true));
        }
    }

    private static void gets() {
        kit.says("Promise 9", "Element k of a signal's value. IndexOutOfBoundsException.");
        StepCode x = threeSignals();
        for (int k = 0; k < 64; k++) {
            x.put(1, false, k, k % 9);
        }
        for (int k = 0; k < 64; k++) {
            kit.same("element " + k, x.get(1, k), k % 9);
        }
        int[][] none = {{-1, 0}, {3, 0}, {512, 0}, {BIG, BIG}, {BEYOND, 0}, {0, 1}, {0, -1}, {1, 64}, {1, -1},
            {1, BEYOND}, {2, 1}, {2, -5}};
        for (int[] n : none) {
            kit.fails("no " + n[0] + ", " + n[1], Kit.INDEX, () -> x.get(n[0], n[1]));
        }
    }

    private static StepCode threeVariables() {
        StepCode x = new StepCode();
        x.variable(0, 0, 0);
        x.variable(1, 64, 0);
        x.variable(2, -5, 5);
        Kit.make(x, Kit.pause());
        x.variable(2, 1, 3);
        Kit.make(x, Kit.loop());
        return x;
    }

    private static final int[][] NO_VARIABLE = {{-1, 0, 0}, {2, 0, 0}, {64, 0, 0}, {BIG, 0, 0}, {BEYOND, 0, 0},
        {0, -1, 0}, {0, 3, 0}, {0, 128, 0}, {0, BIG, 0}, {0, BEYOND, 0}, {1, 1, 0}, {0, 0, 1}, {0, 0, -1}, {0, 1, 64},
        {0, 1, -1}, {0, 1, BIG}, {0, 2, 1}, {1, 0, 1}};

    private static void sets() {
        kit.says("Promise 10", "Element k of a variable of a process becomes another one. IndexOutOfBoundsException; "
                + "IllegalArgumentException when it can't have that.");
        StepCode x = threeVariables();
        for (int[] n : NO_VARIABLE) {
            kit.fails("no " + n[0] + ", " + n[1] + ", " + n[2], Kit.INDEX, () -> x.set(n[0], n[1], n[2], 2));
        }
        for (int value : new int[] {-1, 9, BIG, BEYOND}) {
            kit.fails("LOGIC " + value, Kit.ARGUMENT, () -> x.set(0, 0, 0, value));
            kit.fails("element " + value, Kit.ARGUMENT, () -> x.set(0, 1, 0, value));
        }
        for (int value : new int[] {-6, 6, BIG, BEYOND}) {
            kit.fails("NUMBER " + value, Kit.ARGUMENT, () -> x.set(0, 2, 0, value));
        }
        kit.fails("of the other's range", Kit.ARGUMENT, () -> x.set(1, 0, 0, 4));
        x.set(1, 0, 0, 3);
        for (int value : new int[] {0, 8}) {
            x.set(0, 0, 0, value);
            x.set(0, 1, 63, value);
        }
        x.set(0, 1, 0, 1);
        x.set(0, 2, 0, -5);
        x.set(0, 2, 0, 5);
        kit.same("all are set", x.variableOf(0, 0, 0) + " " + x.variableOf(0, 1, 63) + " "
                + x.variableOf(0, 1, 62) + " " + x.variableOf(0, 1, 0) + " " + x.variableOf(0, 2, 0) + " "
                + x.variableOf(1, 0, 0), "8 8 0 1 5 3");
        x.resume(1, 1);
        x.set(1, 0, 0, 2);
        kit.same("also of one that has stopped", x.variableOf(1, 0, 0), 2);
    }

    /** Whatever it was before. */
    private static void setsAgain() {
        StepCode x = threeVariables();
        for (int from = 0; from <= 8; from++) {
            for (int to = 0; to <= 8; to++) {
                x.set(0, 1, 62, from);
                x.set(0, 1, 62, to);
                kit.same("from " + from + " to " + to, x.variableOf(0, 1, 62), to);
            }
        }
        kit.same("its neighbours stay", x.variableOf(0, 1, 63) + x.variableOf(0, 1, 61), 0);
    }

    private static void variablesOf() {
        kit.says("Promise 11", "Element k of a variable. IndexOutOfBoundsException.");
        StepCode x = threeVariables();
        for (int k = 0; k < 64; k++) {
            x.set(0, 1, k, 8 - k % 9);
        }
        for (int k = 0; k < 64; k++) {
            kit.same("element " + k, x.variableOf(0, 1, k), 8 - k % 9);
        }
        for (int[] n : NO_VARIABLE) {
            kit.fails("no " + n[0] + ", " + n[1] + ", " + n[2], Kit.INDEX, () -> x.variableOf(n[0], n[1], n[2]));
        }
        x.variable(0, 0, 0);
        kit.fails("one that is being made is none's yet", Kit.INDEX, () -> x.variableOf(2, 0, 0));
    }
}
