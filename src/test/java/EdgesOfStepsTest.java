import java.util.Arrays;
import java.util.List;
import java.util.function.Supplier;

/** The edges that the document names of statements, steps, faults and acts, sentence by sentence. */
public final class EdgesOfStepsTest {
    private static final String STEPS = "Terms, STEPS";
    private static final String FAULTS = "Terms, FAULTS";
    private static final String ACTS = "Terms, ACTS";
    private static final int BIG = Kit.BIG;
    private static Kit kit;

    public static void main(String[] args) {
        kit = new Kit("EdgesOfStepsTest");
        outsideOfObject();
        timeBelow0();
        times();
        noCase();
        allAgain();
        oneStep();
        lookThatFindsNone();
        oneMore();
        assignElement();
        assignValue();
        assignDelay();
        assignLimit();
        assignOrder();
        set();
        truths();
        reports();
        asserts();
        cases();
        caseClasses();
        caseOrder();
        fors();
        forOnce();
        forWhatever();
        forOutside();
        exits();
        exitOnlyIfTrue();
        waits();
        waitsOn();
        toTheirEnds();
        mostActs();
        mostValues();
        behindOthers();
        forEver();
        kit.end();
    }

    /** Signals: LOGIC, a row of 4, NUMBERs -3 .. 9; variables: the same, and one of all NUMBERs. */
    private static StepCode ground() {
        StepCode x = new StepCode();
        x.signal(0, 0, 0);
        x.signal(1, 4, 0);
        x.signal(2, -3, 9);
        x.variable(0, 0, 0);
        x.variable(1, 4, 0);
        x.variable(2, -3, 9);
        x.variable(2, -BIG, BIG);
        return x;
    }

    private static StepCode run(int steps, Kit.Tree... statements) {
        StepCode x = ground();
        kit.same("it is a process", Kit.make(x, statements), 0);
        kit.same("what resume answers", x.resume(0, steps), x.about(0, 0));
        return x;
    }

    private static void fault(String what, int fault, Kit.Tree at, Kit.Tree... statements) {
        StepCode x = run(999, statements);
        kit.same(what, Kit.fate(x, 0), fault + " at " + at.number);
    }

    /** What is told until the WAIT that is put behind the statements, and how many steps that takes. */
    private static void told(String what, String due, int steps, Kit.Tree... statements) {
        Kit.Tree[] all = Arrays.copyOf(statements, statements.length + 1);
        all[statements.length] = Kit.pause();
        StepCode x = run(9999, all);
        kit.same(what, Kit.reports(x) + "; " + Kit.fate(x, 0), due + "; waits");
        kit.same(what + ": steps", x.about(0, 5), steps + 2);
    }

    private static Kit.Tree byZero() {
        return Kit.two(16, Kit.num(1), Kit.num(0));
    }

    private static Kit.Tree late(Kit.Tree value, Kit.Tree n) {
        return Kit.t(31, 0, value, Kit.time(1, n));
    }

    private static void outsideOfObject() {
        kit.says(FAULTS, "8 a NUMBER outside of its object");
        for (int n : new int[] {-BIG, -4, -3, 9, 10, BIG}) {
            boolean inside = n >= -3 && n <= 9;
            Kit.Tree let = Kit.let(Kit.var(2), Kit.num(n));
            Kit.Tree wave = Kit.wave(Kit.num(n));
            StepCode x = run(3, let, Kit.pause());
            kit.same("SET to " + n, Kit.fate(x, 0), inside ? "waits" : "8 at " + let.number);
            kit.same("the variable", x.variableOf(0, 2, 0), inside ? n : -3);
            StepCode y = run(3, Kit.assign(0, Kit.sig(2), wave), Kit.pause());
            kit.same("ASSIGN of " + n, Kit.fate(y, 0), inside ? "waits" : "8 at " + wave.number);
            kit.same("acts", y.acts(), inside ? 1 : 0);
        }
    }

    private static void timeBelow0() {
        kit.says(FAULTS, "a TIME below 0;");
        for (int n : new int[] {-BIG, -1, 0, 1, BIG}) {
            Kit.Tree time = Kit.time(1000000, Kit.num(n));
            StepCode x = run(2, Kit.pause(Kit.list(), Kit.nothing(), time));
            kit.same("WAIT " + n, Kit.fate(x, 0), n < 0 ? "8 at " + time.number : "waits");
            kit.same("until", x.until(0), n < 0 ? -1 : n * 1000000L);
            Kit.Tree delay = Kit.time(1000000, Kit.num(n));
            StepCode y = run(3, Kit.assign(1, Kit.sig(2), Kit.t(31, 0, Kit.num(1), delay)), Kit.pause());
            kit.same("ASSIGN after " + n, Kit.fate(y, 0), n < 0 ? "8 at " + delay.number : "waits");
            Kit.Tree limit = Kit.time(1000000, Kit.num(n));
            StepCode z = run(3, Kit.assign(2, Kit.sig(2), limit,
                    Kit.t(31, 0, Kit.num(1), Kit.time(1000000, Kit.num(BIG)))), Kit.pause());
            kit.same("a limit of " + n, Kit.fate(z, 0), n < 0 ? "8 at " + limit.number : "waits");
        }
    }

    private static void times() {
        kit.says(FAULTS, "13 times that do not rise, or a limit above the first;");
        int[][] delays = {{0, 0}, {0, 1}, {1, 1}, {1, 0}, {1, 2, 2}, {1, 2, 3}, {0, 5, 4}, {BIG - 1, BIG}, {BIG, BIG},
            {3, 2, 9}, {0}, {7}};
        for (int[] d : delays) {
            Kit.Tree assign = Kit.assign(0, Kit.sig(2));
            boolean rise = true;
            for (int w = 0; w < d.length; w++) {
                assign.kids.add(late(Kit.num(w), Kit.num(d[w])));
                rise &= w == 0 || d[w] > d[w - 1];
            }
            StepCode x = run(3, assign, Kit.pause());
            kit.same("delays " + Arrays.toString(d), Kit.fate(x, 0),
                    rise ? "waits" : "13 at " + assign.number);
        }
        int[][] limits = {{0, 0}, {0, 1}, {1, 0}, {4, 5}, {5, 5}, {6, 5}, {BIG, BIG}, {BIG, BIG - 1}, {BIG, 0}};
        for (int[] l : limits) {
            Kit.Tree assign = Kit.assign(2, Kit.sig(2), Kit.time(1, Kit.num(l[0])), late(Kit.num(1), Kit.num(l[1])));
            StepCode x = run(3, assign, Kit.pause());
            kit.same("a limit of " + l[0] + " and " + l[1], Kit.fate(x, 0),
                    l[0] <= l[1] ? "waits" : "13 at " + assign.number);
        }
        Kit.Tree none = Kit.assign(0, Kit.sig(2), Kit.wave(Kit.num(1)), Kit.wave(Kit.num(1)));
        fault("both without a TIME", 13, none, none);
        Kit.Tree second = Kit.assign(0, Kit.sig(2), Kit.wave(Kit.num(1), 1), Kit.wave(Kit.num(1)));
        fault("the second one without a TIME", 13, second, second);
        Kit.Tree last = Kit.assign(1, Kit.sig(2));
        for (int w = 0; w < 16; w++) {
            last.kids.add(Kit.wave(Kit.num(1), w == 15 ? 14 : w));
        }
        fault("the last of 16", 13, last, last);
        Kit.Tree units = Kit.assign(1, Kit.sig(2), Kit.t(31, 0, Kit.num(1), Kit.time(1000000, Kit.num(1))),
                Kit.t(31, 0, Kit.num(1), Kit.time(1, Kit.num(1000000))));
        fault("the same in other units", 13, units, units);
        Kit.Tree above = Kit.assign(2, Kit.sig(2), Kit.time(1, Kit.num(1)), Kit.wave(Kit.num(1)));
        fault("a limit above one without a TIME", 13, above, above);
    }

    private static void noCase() {
        kit.says(FAULTS, "15 nothing that a CASE has.");
        Kit.Tree cases = Kit.cases(Kit.num(1), Kit.choice(Kit.list(Kit.num(2), Kit.num(3))),
                Kit.choice(Kit.list(Kit.num(-1))));
        fault("none of NUMBERs", 15, cases, cases);
        Kit.Tree logics = Kit.cases(Kit.logic('H'), Kit.choice(Kit.list(Kit.logic('1'))));
        fault("none of LOGICs", 15, logics, logics);
        Kit.Tree rows = Kit.cases(Kit.row("0L"), Kit.choice(Kit.list(Kit.row("00"))));
        fault("none of rows", 15, rows, rows);
    }

    private static void allAgain() {
        kit.says(STEPS, "A process does its statements in order, and, behind the last one, all again.");
        StepCode x = run(10, Kit.report(Kit.num(1)), Kit.report(Kit.num(2)));
        kit.same("round and round", Kit.reports(x), "1 2 1 2 1 2");
        StepCode y = run(10000);
        kit.same("an empty one", Kit.fate(y, 0) + " " + y.about(0, 5), "stopped 10000");
        StepCode z = run(99, Kit.pause(), Kit.report(Kit.num(3)));
        kit.same("not yet", Kit.reports(z), "");
        z.resume(0, 99);
        kit.same("behind the WAIT, and round", Kit.reports(z) + " " + z.about(0, 5), "3 5");
    }

    private static void oneStep() {
        kit.says(STEPS, "One step is each begin of its body, each statement that is begun (34 to 47, 30, 33), and each "
                + "look of a loop:");
        told("nothing", "", 0);
        told("NULL", "", 1, Kit.skip());
        told("ASSIGN", "", 1, Kit.assign(0, Kit.sig(0), Kit.wave(Kit.logic('0'))));
        told("SET", "", 1, Kit.let(Kit.var(3), Kit.num(4)));
        told("REPORT", "6", 1, Kit.report(Kit.num(6)));
        told("ASSERT", "6", 1, Kit.check(Kit.num(0), Kit.num(6)));
        told("IF of an empty LIST", "", 1, Kit.choose(Kit.num(1), Kit.list()));
        told("IF without one that is true", "", 1, Kit.choose(Kit.num(0), Kit.list(Kit.skip())));
        told("IF of two", "", 3, Kit.choose(Kit.num(1), Kit.list(Kit.skip(), Kit.skip())));
        told("CASE of an empty LIST", "", 1, Kit.cases(Kit.num(1), Kit.choice(Kit.list(Kit.num(1)))));
        told("CASE of one", "", 2, Kit.cases(Kit.num(1), Kit.choice(Kit.list(Kit.num(1)), Kit.skip())));
        told("LOOP, EXIT", "", 3, Kit.loop(Kit.exit(Kit.nothing())));
        told("WHILE of two looks", "", 5, Kit.let(Kit.var(3), Kit.num(1)),
                Kit.loopWhile(Kit.var(3), Kit.let(Kit.var(3), Kit.num(0))));
        told("FOR of three, empty", "", 5, Kit.up(Kit.var(3), Kit.num(1), Kit.num(3)));
        told("FOR of three", "1 2 3", 8, Kit.up(Kit.var(3), Kit.num(1), Kit.num(3), Kit.report(Kit.var(3))));
        told("NEXT", "", 6, Kit.down(Kit.var(3), Kit.num(2), Kit.num(1), Kit.next(Kit.nothing())));
        told("all in one another", "7", 8, Kit.choose(Kit.num(1), Kit.list(Kit.loop(Kit.cases(Kit.num(1),
                Kit.choice(Kit.list(Kit.others()), Kit.choose(Kit.num(0), Kit.list(), Kit.list(
                Kit.report(Kit.num(7)), Kit.exit(Kit.num(1))))))))), Kit.skip());
        StepCode x = run(99, Kit.report(byZero()));
        kit.same("a fault's step counts", x.about(0, 5), 2);
        StepCode y = run(99, Kit.loopWhile(byZero()));
        kit.same("a fault at a look", y.about(0, 5), 3);
        StepCode z = run(99, Kit.up(Kit.var(2), Kit.num(99), Kit.num(99)));
        kit.same("a fault at a FOR's look", z.about(0, 5), 3);
        StepCode u = run(99, Kit.up(Kit.var(2), byZero(), Kit.num(99)));
        kit.same("a fault at a FOR's begin", u.about(0, 5), 2);
    }

    private static void lookThatFindsNone() {
        kit.says(STEPS, "FOR at whether there is a next number (also the one that finds none), WHILE at its "
                + "expression, LOOP at nothing.");
        told("FOR of none", "", 2, Kit.up(Kit.var(3), Kit.num(1), Kit.num(0)));
        told("FOR down of none", "", 2, Kit.down(Kit.var(3), Kit.num(0), Kit.num(1)));
        told("FOR of one", "", 3, Kit.up(Kit.var(3), Kit.num(1), Kit.num(1)));
        told("WHILE of none", "", 2, Kit.loopWhile(Kit.num(0)));
        StepCode x = run(7, Kit.loop());
        kit.same("LOOP of nothing", Kit.fate(x, 0) + " " + x.about(0, 5), "stopped 7");
        StepCode y = run(4, Kit.up(Kit.var(3), Kit.num(1), Kit.num(1)), Kit.pause());
        kit.same("the look that finds none", Kit.fate(y, 0), "stopped");
        StepCode z = run(5, Kit.up(Kit.var(3), Kit.num(1), Kit.num(1)), Kit.pause());
        kit.same("and the WAIT behind it", Kit.fate(z, 0), "waits");
    }

    private static void oneMore() {
        kit.says(STEPS, "When it has made as many steps as it may, and would make one more, it STOPS.");
        for (int steps = 1; steps <= 6; steps++) {
            StepCode x = run(steps, Kit.report(Kit.num(1)), Kit.report(Kit.num(2)), Kit.report(Kit.num(3)),
                    Kit.pause());
            kit.same(steps + " of 5", Kit.fate(x, 0), steps < 5 ? "stopped" : "waits");
            kit.same("acts", x.acts(), Math.min(steps - 1, 3));
            kit.same("steps", x.about(0, 5), Math.min(steps, 5));
        }
        Kit.Tree bad = byZero();
        StepCode x = run(2, Kit.report(bad));
        kit.same("a fault in the last step", Kit.fate(x, 0), "10 at " + bad.number);
        StepCode y = run(1, Kit.report(byZero()));
        kit.same("a fault in one step more", Kit.fate(y, 0), "stopped");
        StepCode z = run(10000, Kit.up(Kit.var(3), Kit.num(1), Kit.num(9996)), Kit.pause());
        kit.same("10000 of 10000", Kit.fate(z, 0) + " " + z.about(0, 5), "waits 10000");
        StepCode u = run(10000, Kit.up(Kit.var(3), Kit.num(1), Kit.num(9997)), Kit.pause());
        kit.same("10000 of 10001", Kit.fate(u, 0) + " " + u.about(0, 5), "stopped 10000");
        StepCode v = run(2, Kit.pause(), Kit.skip());
        kit.same("each resumption has its own", v.resume(0, 3), StepCode.WAITS);
        kit.same("not less", v.resume(0, 2), StepCode.STOPPED);
    }

    private static void assignElement() {
        kit.says(STEPS, "ASSIGN finds its target's element (3, 6 at 82);");
        for (int k = -1; k <= 4; k++) {
            Kit.Tree element = Kit.elem(Kit.sig(1), Kit.num(k));
            StepCode x = run(3, Kit.assign(0, element, Kit.wave(Kit.logic('1'))), Kit.pause());
            boolean there = k >= 0 && k <= 3;
            kit.same("element " + k, Kit.fate(x, 0), there ? "waits" : "6 at " + element.number);
            if (there) {
                kit.same("it is told", x.act(0, 2) * 10 + x.act(0, 3), k * 10 + 1);
            }
        }
        for (Kit.Tree which : new Kit.Tree[] {Kit.logic('0'), Kit.row("0"), Kit.sig(1)}) {
            Kit.Tree element = Kit.elem(Kit.sig(1), which);
            fault("no NUMBER", 3, element, Kit.assign(0, element, Kit.wave(byZero())));
        }
        Kit.Tree in = byZero();
        fault("what is in it", 10, in, Kit.assign(0, Kit.elem(Kit.sig(1), in), Kit.wave(Kit.logic('0'))));
        Kit.Tree first = Kit.elem(Kit.sig(1), Kit.num(4));
        fault("before the limit", 6, first, Kit.assign(2, first, Kit.time(1, byZero()), Kit.wave(byZero())));
    }

    private static void assignValue() {
        kit.says(STEPS, "of each 31 the value (of an element and of LOGIC: LOGIC; of a part and a row: a row of that "
                + "length; of NUMBERs: one in their range; 3, 4, 8 at 31)");
        Kit.Tree[] values = {Kit.logic('1'), Kit.row("1"), Kit.row("11"), Kit.row("1111"), Kit.row("11111"), Kit.num(9),
            Kit.num(10)};
        String[][] due = {
            {"", "3", "3", "3", "3", "3", "3"}, {"3", "4", "4", "", "4", "3", "3"}, {"3", "3", "3", "3", "3", "", "8"},
            {"", "3", "3", "3", "3", "3", "3"}, {"3", "4", "", "4", "4", "3", "3"}, {"3", "", "4", "4", "4", "3", "3"}};
        for (int target = 0; target < due.length; target++) {
            for (int value = 0; value < values.length; value++) {
                Kit.Tree[] targets = {Kit.sig(0), Kit.sig(1), Kit.sig(2), Kit.elem(Kit.sig(1), Kit.num(3)),
                    Kit.part(Kit.sig(1), 2, 2), Kit.part(Kit.sig(1), 3, 1)};
                Kit.Tree wave = Kit.wave(values[value]);
                StepCode x = run(3, Kit.assign(0, targets[target], wave), Kit.pause());
                kit.same("value " + value + " of target " + target, Kit.fate(x, 0),
                        due[target][value].isEmpty() ? "waits" : due[target][value] + " at " + wave.number);
            }
        }
    }

    private static void assignDelay() {
        kit.says(STEPS, "then its delay (0 without a TIME; 3, 8 at TIME);");
        StepCode x = run(3, Kit.assign(0, Kit.sig(2), Kit.wave(Kit.num(1)), Kit.wave(Kit.num(2), 1)), Kit.pause());
        kit.same("0 without a TIME", x.delay(0, 0) * 10 + x.delay(0, 1), 1);
        for (Kit.Tree n : new Kit.Tree[] {Kit.logic('1'), Kit.row("1"), Kit.num(-1)}) {
            Kit.Tree time = Kit.time(1, n);
            fault("a delay", n.kind == 2 ? 8 : 3, time, Kit.assign(0, Kit.sig(2), Kit.t(31, 0, Kit.num(1), time)));
        }
        Kit.Tree in = byZero();
        fault("what is in it", 10, in, Kit.assign(0, Kit.sig(2), late(Kit.num(1), in)));
        Kit.Tree value = late(Kit.num(10), Kit.num(-1));
        fault("the value is first", 8, value, Kit.assign(0, Kit.sig(2), value));
        Kit.Tree time = Kit.time(1, Kit.num(-1));
        fault("then the delay, then the next value", 8, time,
                Kit.assign(0, Kit.sig(2), Kit.t(31, 0, Kit.num(1), time), Kit.wave(Kit.num(99))));
    }

    private static void assignLimit() {
        kit.says(STEPS, "the limit, for mode 2;");
        for (Kit.Tree n : new Kit.Tree[] {Kit.logic('1'), Kit.row("1"), Kit.num(-1)}) {
            Kit.Tree limit = Kit.time(1, n);
            fault("a limit", n.kind == 2 ? 8 : 3, limit, Kit.assign(2, Kit.sig(2), limit, Kit.wave(byZero())));
        }
        Kit.Tree in = byZero();
        fault("what is in it", 10, in, Kit.assign(2, Kit.sig(2), Kit.time(1, in), Kit.wave(Kit.num(99))));
        StepCode x = run(3, Kit.assign(2, Kit.sig(2), Kit.time(1000000, Kit.num(BIG)), Kit.t(31, 0, Kit.num(1),
                Kit.time(1000000, Kit.num(BIG)))), Kit.pause());
        kit.same("the greatest", x.delay(0, StepCode.NONE), 2147483647000000L);
    }

    private static void assignOrder() {
        kit.says(STEPS, "then the delays must rise, and the limit be not above the first one (13 at ASSIGN).");
        Kit.Tree outside = Kit.wave(Kit.num(10), 3);
        fault("behind all values", 8, outside, Kit.assign(0, Kit.sig(2), Kit.wave(Kit.num(1), 5), outside));
        Kit.Tree limit = Kit.wave(Kit.num(99));
        fault("a limit too", 8, limit, Kit.assign(2, Kit.sig(2), Kit.time(1, Kit.num(9)), limit));
        Kit.Tree both = Kit.assign(2, Kit.sig(2), Kit.time(1, Kit.num(9)), Kit.wave(Kit.num(1), 5),
                Kit.wave(Kit.num(1), 5));
        fault("both are one fault", 13, both, both);
    }

    private static void set() {
        kit.says(STEPS, "SET likewise its element, its value (3, 4, 8 at SET), and keeps it.");
        for (int k = -1; k <= 4; k++) {
            Kit.Tree element = Kit.elem(Kit.var(1), Kit.num(k));
            StepCode x = run(3, Kit.let(element, Kit.logic('H')), Kit.pause());
            boolean there = k >= 0 && k <= 3;
            kit.same("element " + k, Kit.fate(x, 0), there ? "waits" : "6 at " + element.number);
            kit.same("the row", Kit.rowOf(x, 0, 1, 4),
                    there ? "U".repeat(3 - k) + "H" + "U".repeat(k) : "UUUU");
        }
        Kit.Tree element = Kit.elem(Kit.var(1), Kit.logic('0'));
        fault("no NUMBER", 3, element, Kit.let(element, byZero()));
        Kit.Tree[] values = {Kit.logic('1'), Kit.row("1"), Kit.row("11"), Kit.row("1111"), Kit.row("11111"),
            Kit.num(-3), Kit.num(-4)};
        String[][] due = {
            {"", "3", "3", "3", "3", "3", "3"}, {"3", "4", "4", "", "4", "3", "3"}, {"3", "3", "3", "3", "3", "", "8"},
            {"", "3", "3", "3", "3", "3", "3"}, {"3", "4", "", "4", "4", "3", "3"}, {"3", "", "4", "4", "4", "3", "3"}};
        for (int target = 0; target < due.length; target++) {
            for (int value = 0; value < values.length; value++) {
                Kit.Tree[] targets = {Kit.var(0), Kit.var(1), Kit.var(2), Kit.elem(Kit.var(1), Kit.num(3)),
                    Kit.part(Kit.var(1), 2, 2), Kit.part(Kit.var(1), 3, 1)};
                Kit.Tree let = Kit.let(targets[target], values[value]);
                StepCode x = run(3, let, Kit.pause());
                kit.same("value " + value + " of target " + target, Kit.fate(x, 0),
                        due[target][value].isEmpty() ? "waits" : due[target][value] + " at " + let.number);
            }
        }
        for (int first = 0; first < 4; first++) {
            for (int many = 1; first + many <= 4; many++) {
                keptPart(first, many, "----", "UUUU");
                keptPart(first, many, "UUUU", "----");
                keptPart(first, many, "HL10", "ZWX-");
            }
        }
        keptPart(0, 64, "01XZWLH-".repeat(8), "H".repeat(64));
        keptPart(0, 64, "H-".repeat(32), "-H".repeat(32));
        keptPart(63, 1, "-".repeat(64), "U".repeat(64));
        keptPart(1, 63, "H".repeat(64), "-".repeat(64));
    }

    /** A part of a row becomes what stands there in another row; the others stay. */
    private static void keptPart(int first, int many, String to, String was) {
        int n = was.length();
        StepCode x = new StepCode();
        x.variable(1, n, 0);
        String part = to.substring(n - first - many, n - first);
        Kit.make(x, Kit.let(Kit.part(Kit.var(0), first, many), Kit.row(part)), Kit.pause());
        for (int k = 0; k < n; k++) {
            x.set(0, 0, k, Kit.CODES.indexOf(was.charAt(n - 1 - k)));
        }
        x.resume(0, 9);
        kit.same("part " + first + ", " + many, Kit.rowOf(x, 0, 0, n),
                was.substring(0, n - first - many) + part + was.substring(n - first));
        if (many == 1) {
            StepCode y = new StepCode();
            y.variable(1, n, 0);
            Kit.make(y, Kit.let(Kit.elem(Kit.var(0), Kit.num(first)), Kit.logic(part.charAt(0))), Kit.pause());
            for (int k = 0; k < n; k++) {
                y.set(0, 0, k, Kit.CODES.indexOf(was.charAt(n - 1 - k)));
            }
            y.resume(0, 9);
            kit.same("element " + first, Kit.rowOf(y, 0, 0, n), Kit.rowOf(x, 0, 0, n));
        }
    }

    private static void truths() {
        kit.says(STEPS, "IF, WHILE, EXIT, NEXT, ASSERT: an expression that is no NUMBER is 3 at the statement;");
        for (Supplier<Kit.Tree> e : noNumbers()) {
            Kit.Tree choose = Kit.choose(e.get(), Kit.list());
            fault("IF", 3, choose, choose);
            Kit.Tree second = Kit.choose(Kit.num(0), Kit.list(), e.get(), Kit.list(), Kit.list());
            fault("IF, the second one", 3, second, second);
            told("IF, behind what is true", "", 1, Kit.choose(Kit.num(1), Kit.list(), e.get(), Kit.list()));
            Kit.Tree loop = Kit.loopWhile(e.get());
            fault("WHILE", 3, loop, loop);
            Kit.Tree exit = Kit.exit(e.get());
            fault("EXIT", 3, exit, Kit.loop(exit));
            Kit.Tree next = Kit.next(e.get());
            fault("NEXT", 3, next, Kit.loop(next));
            Kit.Tree check = Kit.check(e.get(), byZero());
            fault("ASSERT", 3, check, check);
        }
    }

    private static List<Supplier<Kit.Tree>> noNumbers() {
        return List.of(() -> Kit.logic('1'), () -> Kit.logic('0'), () -> Kit.row("1"), () -> Kit.row("00"),
                () -> Kit.sig(0), () -> Kit.var(1));
    }

    private static void reports() {
        kit.says(STEPS, "REPORT, ASSERT: likewise what they tell;");
        for (Supplier<Kit.Tree> e : noNumbers()) {
            Kit.Tree report = Kit.report(e.get());
            fault("REPORT", 3, report, report);
            Kit.Tree check = Kit.check(Kit.num(0), e.get());
            fault("ASSERT", 3, check, check);
        }
        told("the least and the greatest", "-2147483647 2147483647", 2, Kit.report(Kit.num(-BIG)),
                Kit.check(Kit.num(0), Kit.num(BIG)));
    }

    private static void asserts() {
        kit.says(STEPS, "ASSERT looks at the second one only if the first is false.");
        for (int truth : new int[] {-BIG, -1, 1, BIG}) {
            told("true", "", 1, Kit.check(Kit.num(truth), byZero()));
            told("true", "", 1, Kit.check(Kit.num(truth), Kit.logic('0')));
        }
        Kit.Tree bad = byZero();
        fault("false", 10, bad, Kit.check(Kit.num(0), bad));
    }

    private static void cases() {
        kit.says(STEPS, "CASE goes to the first 36 that has OTHERS or something that is the same as the expression");
        for (int n = 0; n <= 5; n++) {
            String[] due = {"1", "1", "2", "3", "3", "3"};
            told("CASE " + n, due[n], 2, Kit.cases(Kit.num(n),
                    Kit.choice(Kit.list(Kit.num(0), Kit.num(1)), Kit.report(Kit.num(1))),
                    Kit.choice(Kit.list(Kit.num(1), Kit.num(2)), Kit.report(Kit.num(2))),
                    Kit.choice(Kit.list(Kit.num(7), Kit.others()), Kit.report(Kit.num(3))),
                    Kit.choice(Kit.list(Kit.num(4)), Kit.report(Kit.num(4)))));
        }
        told("L is not ZERO", "2", 2, Kit.cases(Kit.row("L1"), Kit.choice(Kit.list(Kit.row("01"), Kit.row("LH")),
                Kit.report(Kit.num(1))), Kit.choice(Kit.list(Kit.row("L1")), Kit.report(Kit.num(2)))));
        told("of what is in the expression nothing counts", "2", 2, Kit.cases(Kit.two(12, Kit.one(2, Kit.num(7)),
                Kit.num(0)), Kit.choice(Kit.list(Kit.num(0)), Kit.report(Kit.num(1))),
                Kit.choice(Kit.list(Kit.num(7)), Kit.report(Kit.num(2)))));
        told("OTHERS alone", "1", 2, Kit.cases(Kit.row("L1"), Kit.choice(Kit.list(Kit.others()),
                Kit.report(Kit.num(1)))));
        told("the greatest", "1", 2, Kit.cases(Kit.num(BIG), Kit.choice(Kit.list(Kit.num(-BIG), Kit.num(BIG)),
                Kit.report(Kit.num(1)))));
        String wide = "01LHUX-Z".repeat(8);
        told("rows of 64", "1", 2, Kit.cases(Kit.row(wide), Kit.choice(Kit.list(Kit.row("1" + wide.substring(1)),
                Kit.row(wide.substring(0, 63) + "1"), Kit.row(wide)), Kit.report(Kit.num(1)))));
    }

    private static void caseClasses() {
        kit.says(STEPS, "(another class: 3, length: 4, at the 36); 15 at the CASE without one");
        Kit.Tree[] expressions = {Kit.num(1), Kit.logic('1'), Kit.row("1"), Kit.row("11")};
        String[][] due = {{"", "3", "3", "3"}, {"3", "", "3", "3"}, {"3", "3", "", "4"}, {"3", "3", "4", ""}};
        for (int e = 0; e < 4; e++) {
            for (int c = 0; c < 4; c++) {
                Kit.Tree[] choices = {Kit.num(1), Kit.logic('1'), Kit.row("1"), Kit.row("11")};
                Kit.Tree choice = Kit.choice(Kit.list(choices[c]));
                StepCode x = run(9, Kit.cases(expressions[e], choice), Kit.pause());
                kit.same(e + " and " + c, Kit.fate(x, 0),
                        due[e][c].isEmpty() ? "waits" : due[e][c] + " at " + choice.number);
            }
        }
        Kit.Tree second = Kit.choice(Kit.list(Kit.num(3), Kit.logic('1')));
        fault("the second 36", 3, second, Kit.cases(Kit.num(1), Kit.choice(Kit.list(Kit.num(2))), second));
    }

    private static void caseOrder() {
        kit.says(STEPS, "(each is looked at as it is come to, what stands behind the one that fits is not).");
        told("behind what fits", "", 1, Kit.cases(Kit.num(1), Kit.choice(Kit.list(Kit.num(1), Kit.logic('1')))));
        told("behind OTHERS", "", 1, Kit.cases(Kit.num(1), Kit.choice(Kit.list(Kit.others(), Kit.logic('1')))));
        told("in a 36 behind", "", 1, Kit.cases(Kit.num(1), Kit.choice(Kit.list(Kit.num(1))),
                Kit.choice(Kit.list(Kit.logic('1')))));
        Kit.Tree before = Kit.choice(Kit.list(Kit.logic('1'), Kit.num(1)));
        fault("before what fits", 3, before, Kit.cases(Kit.num(1), before));
        Kit.Tree others = Kit.choice(Kit.list(Kit.logic('1'), Kit.others()));
        fault("before OTHERS", 3, others, Kit.cases(Kit.num(1), others));
        Kit.Tree length = Kit.choice(Kit.list(Kit.row("1"), Kit.row("11")));
        fault("a length before what fits", 4, length, Kit.cases(Kit.row("11"), length));
        Kit.Tree first = Kit.choice(Kit.list(Kit.row("1")));
        fault("a length in the first, a class in the second", 4, first, Kit.cases(Kit.row("11"), first,
                Kit.choice(Kit.list(Kit.num(1)))));
    }

    private static void fors() {
        kit.says(STEPS, "in turn each from the first to the second one");
        told("up", "-1 0 1", 8, Kit.up(Kit.var(2), Kit.num(-1), Kit.num(1), Kit.report(Kit.var(2))));
        told("down", "1 0 -1", 8, Kit.down(Kit.var(2), Kit.num(1), Kit.num(-1), Kit.report(Kit.var(2))));
        told("up, one", "5", 4, Kit.up(Kit.var(2), Kit.num(5), Kit.num(5), Kit.report(Kit.var(2))));
        told("down, one", "5", 4, Kit.down(Kit.var(2), Kit.num(5), Kit.num(5), Kit.report(Kit.var(2))));
        told("up, none", "", 2, Kit.up(Kit.var(2), Kit.num(6), Kit.num(5), Kit.report(Kit.var(2))));
        told("down, none", "", 2, Kit.down(Kit.var(2), Kit.num(5), Kit.num(6), Kit.report(Kit.var(2))));
        told("up to the greatest", "2147483646 2147483647", 6,
                Kit.up(Kit.var(3), Kit.num(BIG - 1), Kit.num(BIG), Kit.report(Kit.var(3))));
        told("down to the least", "-2147483646 -2147483647", 6,
                Kit.down(Kit.var(3), Kit.num(-BIG + 1), Kit.num(-BIG), Kit.report(Kit.var(3))));
        told("up, far from it", "", 2, Kit.up(Kit.var(3), Kit.num(BIG), Kit.num(-BIG)));
        told("down, far from it", "", 2, Kit.down(Kit.var(3), Kit.num(-BIG), Kit.num(BIG)));
        StepCode x = run(10000, Kit.up(Kit.var(3), Kit.num(-BIG), Kit.num(BIG)));
        kit.same("all of them stop", Kit.fate(x, 0) + " " + x.variableOf(0, 3, 0), "stopped " + (-BIG + 9997));
    }

    private static void forOnce() {
        kit.says(STEPS, "FOR: both NUMBERs (3 at the FOR) are found once;");
        told("found once", "2 3 4", 12, Kit.let(Kit.var(3), Kit.num(2)), Kit.up(Kit.var(2), Kit.var(3),
                Kit.two(12, Kit.var(3), Kit.num(2)), Kit.report(Kit.var(2)), Kit.let(Kit.var(3), Kit.num(-77))));
        told("of its own variable", "2 3 4", 9, Kit.let(Kit.var(3), Kit.num(2)), Kit.up(Kit.var(3), Kit.var(3),
                Kit.two(12, Kit.var(3), Kit.num(2)), Kit.report(Kit.var(3))));
        told("found anew by the next FOR", "1 1 2", 14, Kit.up(Kit.var(2), Kit.num(1), Kit.num(2),
                Kit.up(Kit.var(3), Kit.num(1), Kit.var(2), Kit.report(Kit.var(3)))));
        for (Supplier<Kit.Tree> e : noNumbers()) {
            for (int kind = 38; kind <= 39; kind++) {
                Kit.Tree first = Kit.t(kind, 0, Kit.var(2), e.get(), Kit.num(1), Kit.list());
                fault("the first one", 3, first, first);
                Kit.Tree second = Kit.t(kind, 0, Kit.var(2), Kit.num(1), e.get(), Kit.list());
                fault("the second one", 3, second, second);
                Kit.Tree both = Kit.t(kind, 0, Kit.var(2), e.get(), e.get(), Kit.list());
                fault("both", 3, both, both);
            }
        }
    }

    private static void forWhatever() {
        kit.says(STEPS, "(whatever the variable became in between)");
        told("set in it", "1 2 3 -3", 12, Kit.up(Kit.var(2), Kit.num(1), Kit.num(3), Kit.report(Kit.var(2)),
                Kit.let(Kit.var(2), Kit.num(-3))), Kit.report(Kit.var(2)));
        told("one FOR of another's variable", "1 2 1 2 2", 17, Kit.up(Kit.var(2), Kit.num(1), Kit.num(2),
                Kit.up(Kit.var(2), Kit.num(1), Kit.num(2), Kit.report(Kit.var(2)))), Kit.report(Kit.var(2)));
        told("it stays the last one", "3", 6, Kit.up(Kit.var(2), Kit.num(1), Kit.num(3)), Kit.report(Kit.var(2)));
        told("none leaves it", "-3", 3, Kit.up(Kit.var(2), Kit.num(3), Kit.num(1)), Kit.report(Kit.var(2)));
        StepCode x = run(99, Kit.up(Kit.var(2), Kit.num(1), Kit.num(3), Kit.report(Kit.var(2)), Kit.pause()));
        x.set(0, 2, 0, 9);
        x.resume(0, 99);
        kit.same("set while it waits", Kit.reports(x), "2");
    }

    private static void forOutside() {
        kit.says(STEPS, "is put into the variable (8 at the FOR when it is outside)");
        Kit.Tree above = Kit.up(Kit.var(2), Kit.num(9), Kit.num(10), Kit.report(Kit.var(2)));
        StepCode x = run(99, above);
        kit.same("above", Kit.reports(x) + "; " + Kit.fate(x, 0), "9; 8 at " + above.number);
        kit.same("it stays", x.variableOf(0, 2, 0), 9);
        Kit.Tree below = Kit.down(Kit.var(2), Kit.num(-3), Kit.num(-4), Kit.report(Kit.var(2)));
        StepCode y = run(99, below);
        kit.same("below", Kit.reports(y) + "; " + Kit.fate(y, 0), "-3; 8 at " + below.number);
        Kit.Tree once = Kit.up(Kit.var(2), Kit.num(-4), Kit.num(5));
        fault("at once", 8, once, once);
        told("outside, but none", "", 2, Kit.up(Kit.var(2), Kit.num(50), Kit.num(40)));
        told("left before it", "9", 4, Kit.up(Kit.var(2), Kit.num(9), Kit.num(10), Kit.report(Kit.var(2)),
                Kit.exit(Kit.nothing())));
    }

    private static void exits() {
        kit.says(STEPS, "EXIT leaves the innermost loop, NEXT goes to its next look");
        told("EXIT of the inner one", "1 2", 12, Kit.up(Kit.var(2), Kit.num(1), Kit.num(2),
                Kit.loop(Kit.exit(Kit.nothing()), Kit.report(Kit.num(9))), Kit.report(Kit.var(2))));
        told("EXIT of the outer one", "1", 6, Kit.up(Kit.var(2), Kit.num(1), Kit.num(2),
                Kit.loopWhile(Kit.num(0)), Kit.report(Kit.var(2)), Kit.exit(Kit.nothing())));
        told("NEXT of the inner one", "1 2", 18, Kit.up(Kit.var(2), Kit.num(1), Kit.num(2), Kit.up(Kit.var(3),
                Kit.num(1), Kit.num(2), Kit.next(Kit.nothing()), Kit.report(Kit.num(9))), Kit.report(Kit.var(2))));
        told("NEXT at the last number", "1", 7, Kit.up(Kit.var(2), Kit.num(1), Kit.num(2),
                Kit.next(Kit.two(6, Kit.var(2), Kit.num(2))), Kit.report(Kit.var(2))));
        told("NEXT of a WHILE looks again", "", 6, Kit.let(Kit.var(3), Kit.num(1)), Kit.loopWhile(Kit.var(3),
                Kit.let(Kit.var(3), Kit.num(0)), Kit.next(Kit.nothing()), Kit.report(Kit.num(9))));
        told("a loop begun again begins anew", "1 1", 12, Kit.up(Kit.var(2), Kit.num(1), Kit.num(2), Kit.up(Kit.var(3),
                Kit.num(1), Kit.num(9), Kit.report(Kit.var(3)), Kit.exit(Kit.nothing()))));
    }

    private static void exitOnlyIfTrue() {
        kit.says(STEPS, "both only if their expression is true.");
        told("EXIT if 0", "1 2", 8, Kit.up(Kit.var(2), Kit.num(1), Kit.num(2), Kit.exit(Kit.num(0)),
                Kit.report(Kit.var(2))));
        told("EXIT if -1", "", 3, Kit.up(Kit.var(2), Kit.num(1), Kit.num(2), Kit.exit(Kit.num(-1)),
                Kit.report(Kit.var(2))));
        told("NEXT if 0", "1 2", 8, Kit.up(Kit.var(2), Kit.num(1), Kit.num(2), Kit.next(Kit.num(0)),
                Kit.report(Kit.var(2))));
        told("NEXT if the greatest", "", 6, Kit.up(Kit.var(2), Kit.num(1), Kit.num(2), Kit.next(Kit.num(BIG)),
                Kit.report(Kit.var(2))));
    }

    private static void waits() {
        kit.says(STEPS, "WAIT: its time is found (3, 8 at the TIME; its expression is not looked at yet), and "
                + "the process WAITS;");
        StepCode x = run(2, Kit.pause(Kit.list(), byZero(), Kit.time(1, Kit.num(0))));
        kit.same("its expression is not looked at", Kit.fate(x, 0), "waits");
        kit.same("a time of 0", x.until(0), 0);
        StepCode y = run(2, Kit.pause(Kit.list(), Kit.logic('0'), Kit.nothing()));
        kit.same("nor its class", Kit.fate(y, 0), "waits");
        for (Supplier<Kit.Tree> e : noNumbers()) {
            Kit.Tree time = Kit.time(1, e.get());
            fault("no NUMBER", 3, time, Kit.pause(Kit.list(), byZero(), time));
        }
        Kit.Tree below = Kit.time(1000000, Kit.num(-1));
        fault("below 0", 8, below, Kit.pause(Kit.list(), byZero(), below));
        Kit.Tree in = byZero();
        fault("what is in it", 10, in, Kit.pause(Kit.list(), Kit.nothing(), Kit.time(1, in)));
    }

    private static void waitsOn() {
        kit.says(STEPS, "it goes on behind it when it is resumed.");
        StepCode x = run(99, Kit.report(Kit.num(1)), Kit.pause(Kit.list(), Kit.num(0), Kit.nothing()),
                Kit.report(Kit.num(2)));
        kit.same("it does not hold", x.holds(0), 0);
        kit.same("resumed even so", x.resume(0, 99), StepCode.WAITS);
        kit.same("behind it, and round", Kit.reports(x), "2 1");
        StepCode y = run(99, Kit.loop(Kit.choose(Kit.num(1), Kit.list(Kit.cases(Kit.num(1), Kit.choice(
                Kit.list(Kit.others()), Kit.pause()))), Kit.list()), Kit.report(Kit.num(5))));
        y.resume(0, 99);
        kit.same("the last one of many LISTs", Kit.reports(y), "5");
        StepCode z = run(99, Kit.report(Kit.num(1)), Kit.pause());
        z.resume(0, 1);
        kit.same("the begin of the body is one step", Kit.fate(z, 0) + " " + z.about(0, 5), "stopped 4");
    }

    private static void toTheirEnds() {
        kit.says(ACTS, "ACTS of a resumption are ASSIGNs and told reports that were done to their ends, in order "
                + "(also of one that ended by a fault or a stop);");
        Kit.Tree good = Kit.assign(0, Kit.sig(2), Kit.wave(Kit.num(4)));
        StepCode x = run(99, Kit.report(Kit.num(1)), good, Kit.check(Kit.num(1), Kit.num(5)),
                Kit.check(Kit.num(0), Kit.num(6)), Kit.assign(0, Kit.sig(2), Kit.wave(Kit.num(4)),
                Kit.wave(Kit.num(99), 1)));
        kit.same("ended by a fault", x.acts(), 3);
        kit.same("in order", x.act(0, 0) * 100 + x.act(1, 0) * 10 + x.act(2, 0), 101);
        kit.same("what they tell", x.act(0, 1) * 100 + x.act(1, 1) * 10 + x.act(2, 1), 126);
        StepCode y = run(4, Kit.report(Kit.num(1)), good, Kit.report(Kit.num(3)), Kit.report(Kit.num(4)));
        kit.same("ended by a stop", y.acts() + " " + y.act(2, 1), "3 3");
        StepCode z = run(99, Kit.report(Kit.num(1)), Kit.pause());
        kit.same("one", z.acts(), 1);
        z.resume(0, 1);
        kit.same("none in a resumption that stops at once", z.acts(), 0);
    }

    /** The statements, done so many times. */
    private static StepCode often(int times, Kit.Tree... statements) {
        StepCode x = ground();
        x.variable(2, 0, 999);
        Kit.make(x, Kit.up(Kit.var(4), Kit.num(1), Kit.num(times), statements), Kit.pause());
        x.resume(0, 10000);
        return x;
    }

    private static Kit.Tree waves(int many) {
        Kit.Tree assign = Kit.assign(0, Kit.sig(2));
        for (int w = 0; w < many; w++) {
            assign.kids.add(Kit.wave(Kit.num(w % 10), w));
        }
        return assign;
    }

    private static void mostActs() {
        kit.says(ACTS, "at most 200, with at most 500 of 31 (14 at the statement");
        for (int times : new int[] {199, 200, 201}) {
            Kit.Tree[] each = {Kit.report(Kit.var(4)), waves(1), Kit.check(Kit.num(0), Kit.var(4))};
            for (Kit.Tree act : each) {
                StepCode x = often(times, act);
                kit.same(times + " acts", Kit.fate(x, 0), times <= 200 ? "waits" : "14 at " + act.number);
                kit.same("told", x.acts(), Math.min(times, 200));
            }
        }
        Kit.Tree report = Kit.report(Kit.num(1));
        StepCode x = often(101, report, waves(1), Kit.check(Kit.num(1), Kit.num(1)));
        kit.same("both together", x.acts(), 200);
        kit.same("the 201st", Kit.fate(x, 0), "14 at " + report.number);
        StepCode y = often(200, Kit.report(Kit.num(1)), Kit.check(Kit.num(1), Kit.num(1)));
        kit.same("an ASSERT that tells nothing is none", Kit.fate(y, 0), "waits");
        y.resume(0, 10000);
        kit.same("each resumption has its own", Kit.fate(y, 0) + " " + y.acts(), "waits 200");
        StepCode z = often(31, waves(16));
        for (int i = 0; i < 5; i++) {
            kit.same("each has its own values", z.resume(0, 10000), StepCode.WAITS);
            kit.same("acts", z.acts(), 31);
            kit.same("the last value", z.value(30, 15, 0) * 100 + z.delay(30, 15), 515);
        }
    }

    private static void mostValues() {
        kit.says(FAULTS, "14 too much (see ACTS);");
        int[][] sums = {{31, 16, 4}, {31, 16, 3}, {31, 16, 5}, {50, 10, 1}, {49, 10, 10}, {100, 5, 1}, {125, 4, 1}};
        for (int[] s : sums) {
            StepCode x = ground();
            x.variable(2, 0, 999);
            Kit.Tree last = waves(s[2]);
            Kit.make(x, Kit.up(Kit.var(4), Kit.num(1), Kit.num(s[0]), waves(s[1])), last, Kit.report(Kit.num(1)),
                    Kit.pause());
            x.resume(0, 10000);
            boolean fits = s[0] * s[1] + s[2] <= 500;
            kit.same(s[0] * s[1] + s[2] + " values", Kit.fate(x, 0), fits ? "waits" : "14 at " + last.number);
            kit.same("acts", x.acts(), fits ? s[0] + 2 : s[0]);
            if (fits) {
                kit.same("the last value", x.value(s[0], s[2] - 1, 0), (s[2] - 1) % 10);
                kit.same("the last delay", x.delay(s[0], s[2] - 1), s[2] - 1);
            }
        }
    }

    private static void behindOthers() {
        kit.says(ACTS, "14 at the statement, behind its other faults)");
        Supplier<Kit.Tree> full = () -> Kit.up(Kit.var(3), Kit.num(1), Kit.num(200), Kit.report(Kit.num(1)));
        Kit.Tree in = byZero();
        faultBehind(full, Kit.report(in), 10, in);
        Kit.Tree logic = Kit.report(Kit.logic('1'));
        faultBehind(full, logic, 3, logic);
        Kit.Tree check = Kit.check(Kit.num(0), Kit.logic('1'));
        faultBehind(full, check, 3, check);
        Kit.Tree falling = Kit.assign(0, Kit.sig(2), Kit.wave(Kit.num(1)), Kit.wave(Kit.num(1)));
        faultBehind(full, falling, 13, falling);
        Kit.Tree outside = Kit.wave(Kit.num(10));
        faultBehind(full, Kit.assign(0, Kit.sig(2), outside), 8, outside);
        Kit.Tree element = Kit.elem(Kit.sig(1), Kit.num(4));
        faultBehind(full, Kit.assign(0, element, Kit.wave(Kit.logic('1'))), 6, element);
        Kit.Tree good = Kit.assign(0, Kit.sig(2), Kit.wave(Kit.num(1)));
        faultBehind(full, good, 14, good);
        Supplier<Kit.Tree> values = () -> Kit.up(Kit.var(3), Kit.num(1), Kit.num(50), waves(10));
        Kit.Tree falls = Kit.assign(0, Kit.sig(2), Kit.wave(Kit.num(1)), Kit.wave(Kit.num(1)));
        faultBehind(values, falls, 13, falls);
        Kit.Tree one = waves(1);
        faultBehind(values, one, 14, one);
    }

    private static void faultBehind(Supplier<Kit.Tree> full, Kit.Tree statement, int fault, Kit.Tree at) {
        StepCode x = ground();
        Kit.make(x, full.get(), statement);
        x.resume(0, 10000);
        kit.same("behind all acts that there may be", Kit.fate(x, 0), fault + " at " + at.number);
    }

    private static void forEver() {
        kit.says(ACTS, "A fault, or a stop, ends the process for ever.");
        StepCode x = run(2, Kit.report(byZero()));
        StepCode y = run(2, Kit.report(Kit.num(1)));
        for (StepCode ended : new StepCode[] {x, y}) {
            String fate = Kit.fate(ended, 0);
            for (int i = 0; i < 3; i++) {
                kit.fails("resumed", Kit.STATE, () -> ended.resume(0, 10000));
                kit.fails("looked at", Kit.STATE, () -> ended.holds(0));
            }
            kit.same("as it was", Kit.fate(ended, 0), fate);
            kit.same("its steps", ended.about(0, 5), 2);
            ended.set(0, 0, 0, 3);
            kit.same("its variables can be set", ended.variableOf(0, 0, 0), 3);
            kit.same("another one is made", Kit.make(ended, Kit.pause()), 1);
            kit.same("and goes on", ended.resume(1, 2), StepCode.WAITS);
        }
    }
}
