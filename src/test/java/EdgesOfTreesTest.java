import java.util.ArrayList;
import java.util.List;
import java.util.function.Supplier;

/**
 * The edges that the document's KINDS of nodes name, sentence by sentence. Signals and variables 0, 1, 2 are of LOGIC,
 * of rows of 4 and of NUMBERs.
 */
public final class EdgesOfTreesTest {
    private static final int BIG = Kit.BIG;
    private static final int BEYOND = Integer.MIN_VALUE;
    private static final String TERMS = "Terms, KINDS";
    private static Kit kit;

    public static void main(String[] args) {
        kit = new Kit("EdgesOfTreesTest");
        latestTrees();
        noValue();
        numbersAndLogics();
        rows();
        objects();
        elements();
        parts();
        edgesOfSignals();
        conversions();
        ofSignals();
        ones();
        twos();
        leaves();
        times();
        lists();
        targets();
        assigns();
        sets();
        ifs();
        cases();
        fors();
        whilesAndLoops();
        exits();
        exitsInWhichLoop();
        waits();
        otherStatements();
        noneOfThese();
        height();
        heightOfStatements();
        bodies();
        kit.end();
    }

    /** A tree that is right in itself, and what it can stand for. */
    private record Sample(String can, Supplier<Kit.Tree> tree) {
    }

    /**
     * What samples can stand for: e expression, 2 and 3 kinds, T signal's target, V variable's target, S signal, L
     * signal of LOGIC, R of rows, N variable of NUMBERs, n NOTHING, t TIME, s statements, g LIST of signals, l LIST
     * of choices, w 31, c 36, q a statement.
     */
    private static List<Sample> samples() {
        List<Sample> all = new ArrayList<>();
        all.add(new Sample("e2", () -> Kit.num(1)));
        all.add(new Sample("e3", () -> Kit.logic('0')));
        all.add(new Sample("e", () -> Kit.row("01")));
        all.add(new Sample("eTSL", () -> Kit.sig(0)));
        all.add(new Sample("eTSR", () -> Kit.sig(1)));
        all.add(new Sample("eTS", () -> Kit.sig(2)));
        all.add(new Sample("eV", () -> Kit.var(0)));
        all.add(new Sample("eVR", () -> Kit.var(1)));
        all.add(new Sample("eVN", () -> Kit.var(2)));
        all.add(new Sample("eT", () -> Kit.elem(Kit.sig(1), Kit.num(0))));
        all.add(new Sample("eV", () -> Kit.elem(Kit.var(1), Kit.num(0))));
        all.add(new Sample("eT", () -> Kit.part(Kit.sig(1), 0, 2)));
        all.add(new Sample("eV", () -> Kit.part(Kit.var(1), 0, 2)));
        all.add(new Sample("e", () -> Kit.t(84, 8, Kit.sig(0))));
        all.add(new Sample("e", () -> Kit.t(84, 10, Kit.sig(1))));
        all.add(new Sample("e", () -> Kit.t(84, 11, Kit.num(1), Kit.num(3))));
        all.add(new Sample("e", () -> Kit.t(85, 17, Kit.sig(1))));
        all.add(new Sample("e", () -> Kit.one(2, Kit.num(1))));
        all.add(new Sample("e", () -> Kit.two(12, Kit.num(1), Kit.num(1))));
        all.add(new Sample("n", Kit::nothing));
        all.add(new Sample("", Kit::others));
        all.add(new Sample("t", () -> Kit.time(1, Kit.num(1))));
        all.add(new Sample("sg", () -> Kit.list()));
        all.add(new Sample("s", () -> Kit.list(Kit.skip())));
        all.add(new Sample("g", () -> Kit.list(Kit.sig(0), Kit.sig(1), Kit.sig(2))));
        all.add(new Sample("l", () -> Kit.list(Kit.num(1))));
        all.add(new Sample("l", () -> Kit.list(Kit.others())));
        all.add(new Sample("l", () -> Kit.list(Kit.logic('0'), Kit.row("0"), Kit.num(1), Kit.others())));
        all.add(new Sample("", () -> Kit.list(Kit.num(1), Kit.sig(0))));
        all.add(new Sample("", () -> Kit.list(Kit.sig(0), Kit.num(1))));
        all.add(new Sample("", () -> Kit.list(Kit.num(1), Kit.nothing())));
        all.add(new Sample("", () -> Kit.list(Kit.skip(), Kit.num(1))));
        all.add(new Sample("", () -> Kit.list(Kit.num(1), Kit.skip())));
        all.add(new Sample("", () -> Kit.list(Kit.skip(), Kit.wave(Kit.num(1)))));
        all.add(new Sample("", () -> Kit.list(Kit.choice(Kit.list(Kit.others())))));
        all.add(new Sample("", () -> Kit.list(Kit.list())));
        all.add(new Sample("", () -> Kit.list(Kit.time(1, Kit.num(1)))));
        all.add(new Sample("", () -> Kit.list(Kit.var(0))));
        all.add(new Sample("w", () -> Kit.wave(Kit.num(1))));
        all.add(new Sample("c", () -> Kit.choice(Kit.list(Kit.others()))));
        all.addAll(statements());
        return all;
    }

    /** One of each that needs no loop around it. */
    private static List<Sample> statements() {
        return List.of(
            new Sample("q", () -> Kit.assign(0, Kit.sig(0), Kit.wave(Kit.num(1)))),
            new Sample("q", () -> Kit.let(Kit.var(0), Kit.num(1))),
            new Sample("q", () -> Kit.choose(Kit.num(1), Kit.list())),
            new Sample("q", () -> Kit.cases(Kit.num(1), Kit.choice(Kit.list(Kit.others())))),
            new Sample("q", () -> Kit.up(Kit.var(2), Kit.num(1), Kit.num(1))),
            new Sample("q", () -> Kit.down(Kit.var(2), Kit.num(1), Kit.num(1))),
            new Sample("q", () -> Kit.loopWhile(Kit.num(1))),
            new Sample("q", () -> Kit.loop()),
            new Sample("q", () -> Kit.pause()),
            new Sample("q", Kit::skip),
            new Sample("q", () -> Kit.report(Kit.num(1))),
            new Sample("q", () -> Kit.check(Kit.num(1), Kit.num(1))));
    }

    private static StepCode ground() {
        StepCode x = new StepCode();
        x.signal(0, 0, 0);
        x.signal(1, 4, 0);
        x.signal(2, 0, 9);
        x.variable(0, 0, 0);
        x.variable(1, 4, 0);
        x.variable(2, 0, 9);
        return x;
    }

    /** Planted in a LIST, or, if it needs a loop, in one's LIST. */
    private static int answer(Kit.Tree tree, boolean inLoop) {
        StepCode x = ground();
        Kit.Tree body = inLoop ? Kit.list(Kit.loop(tree)) : Kit.list(tree);
        body.plant(x);
        int made = x.process();
        kit.same("processes", x.processes(), made == 0 ? 1 : 0);
        return made == -1 - body.number ? 0 : made;
    }

    private static boolean needsLoop(Kit.Tree tree) {
        return tree.kind == 42 || tree.kind == 43;
    }

    private static void right(String what, Kit.Tree tree) {
        kit.same(what, answer(tree, needsLoop(tree)), 0);
    }

    private static void wrong(String what, Kit.Tree tree) {
        int made = answer(tree, needsLoop(tree));
        kit.same(what, made, -1 - tree.number);
    }

    /**
     * Puts every sample into every place of a node: it is right where the place wants it, and WRONG elsewhere.
     * Places are the letters of samples, with / between what may stand for each other.
     */
    private static void places(int kind, int value, String... places) {
        List<Sample> all = samples();
        for (int at = 0; at < places.length; at++) {
            for (int i = 0; i < all.size(); i++) {
                Kit.Tree node = Kit.t(kind, value);
                for (int place = 0; place < places.length; place++) {
                    node.kids.add(place == at ? all.get(i).tree.get() : fitting(all, places[place]));
                }
                String what = kind + " (" + value + ") with sample " + i + " as child " + at;
                if (fits(all.get(i), places[at])) {
                    right(what, node);
                } else {
                    wrong(what, node);
                }
            }
        }
    }

    private static boolean fits(Sample sample, String place) {
        for (String want : place.split("/")) {
            if (sample.can.contains(want)) {
                return true;
            }
        }
        return false;
    }

    private static Kit.Tree fitting(List<Sample> all, String place) {
        for (Sample sample : all) {
            if (fits(sample, place)) {
                return sample.tree.get();
            }
        }
        throw new IllegalStateException("no sample for " + place);
    }

    /** With one child less, and with one more of each kind. */
    private static void justSoMany(Supplier<Kit.Tree> right) {
        right("as many as there must be", right.get());
        Kit.Tree less = right.get();
        if (!less.kids.isEmpty()) {
            less.kids.remove(less.kids.size() - 1);
            wrong(less.kind + " with one child less", less);
        }
        for (Sample sample : samples()) {
            Kit.Tree more = right.get();
            more.kids.add(sample.tree.get());
            wrong(more.kind + " with one child more", more);
        }
    }

    private static void latestTrees() {
        kit.says("Terms", "each takes the latest trees that are in none yet as its children");
        StepCode x = new StepCode();
        x.add(2, 10, 0);
        x.add(2, 3, 0);
        x.add(2, 4, 0);
        kit.same("the latest two", x.add(21, 13, 2), 3);
        kit.same("that one and the first", x.add(21, 15, 2), 4);
        x.add(46, 0, 1);
        for (int i = 0; i < 3; i++) {
            x.add(48, 0, 0);
            x.add(0, 0, 0);
            x.add(0, 0, 0);
            x.add(44, 0, 3);
        }
        x.add(48, 0, 4);
        kit.same("process", x.process(), 0);
        x.resume(0, 9);
        kit.same("10 times (3 less 4)", Kit.reports(x), "-10");
    }

    private static void noValue() {
        kit.says(TERMS, "no value: 0;");
        List<Sample> all = samples();
        all.add(new Sample("", () -> Kit.exit(Kit.nothing())));
        all.add(new Sample("", () -> Kit.next(Kit.nothing())));
        for (Sample sample : all) {
            int kind = sample.tree.get().kind;
            if (List.of(2, 3, 80, 81, 84, 85, 20, 21, 30, 32).contains(kind)) {
                continue;
            }
            right(kind + " with 0", sample.tree.get());
            for (int value : new int[] {-1, 1, BIG, BEYOND}) {
                Kit.Tree tree = sample.tree.get();
                tree.value = value;
                wrong(kind + " with " + value, tree);
            }
        }
    }

    private static void numbersAndLogics() {
        kit.says(TERMS, "2 a NUMBER (it). 3 a LOGIC (0 .. 8).");
        for (int n : new int[] {-BIG, -1, 0, 1, BIG}) {
            right("NUMBER " + n, Kit.num(n));
        }
        wrong("NUMBER beyond", Kit.num(BEYOND));
        for (int code : new int[] {0, 8}) {
            right("LOGIC " + code, Kit.t(3, code));
        }
        for (int code : new int[] {-1, 9, BIG, BEYOND}) {
            wrong("LOGIC " + code, Kit.t(3, code));
        }
        justSoMany(() -> Kit.num(1));
        justSoMany(() -> Kit.logic('0'));
    }

    private static void rows() {
        kit.says(TERMS, "4 a ROW (; 1 to 64 of kind 3, from the left).");
        wrong("of none", Kit.t(4, 0));
        right("of 1", Kit.row("U"));
        right("of 64", Kit.row("H".repeat(64)));
        wrong("of 65", Kit.row("H".repeat(65)));
        places(4, 0, "3");
        places(4, 0, "3", "3", "3");
        kit.same("from the left", Tried.found(Kit.row("01XZ")), "[01XZ]");
    }

    private static void objects() {
        kit.says(TERMS, "80 a signal, 81 a variable (their numbers; one that there is not by process() makes the node "
                + "WRONG).");
        for (int kind = 80; kind <= 81; kind++) {
            int of = kind;
            for (int n : new int[] {-1, 3, 4, BIG, BEYOND}) {
                wrong(of + " of " + n, Kit.t(of, n));
            }
            for (int n = 0; n < 3; n++) {
                right(of + " of " + n, Kit.t(of, n));
            }
            justSoMany(() -> Kit.t(of, 0));
            StepCode x = new StepCode();
            kit.same("not there by process()", Kit.make(x, Kit.report(Kit.t(of, 0))), -1);
            Kit.list(Kit.report(Kit.t(of, 0)), Kit.pause()).plant(x);
            kit.same("made behind its node", of == 80 ? x.signal(2, 7, 9) : x.variable(2, 7, 9), 0);
            kit.same("but there by process()", x.process(), 0);
            x.resume(0, 9);
            kit.same("and read", Kit.reports(x), "7");
            kit.same("a variable is of its process alone", Kit.make(x, Kit.report(Kit.t(of, 0))), of == 80 ? 1 : -1);
        }
    }

    private static void elements() {
        kit.says(TERMS, "82 an element (; 80 or 81 of rows, expression: which one, from the right).");
        places(82, 0, "R", "e");
        justSoMany(() -> Kit.elem(Kit.sig(1), Kit.num(0)));
        right("one that is not there is a fault, not WRONG", Kit.elem(Kit.sig(1), Kit.num(4)));
        for (char c : Kit.CODES.toCharArray()) {
            for (int k : new int[] {0, 1, 62, 63}) {
                StepCode x = new StepCode();
                x.signal(1, 64, 0);
                x.signal(0, 0, 0);
                Kit.make(x, Kit.report(Kit.two(6, Kit.elem(Kit.sig(0), Kit.num(k)), Kit.sig(1))),
                        Kit.report(Kit.two(6, Kit.part(Kit.sig(0), k, 1), Kit.row("" + c))), Kit.pause());
                x.put(0, false, k, Kit.CODES.indexOf(c));
                x.put(1, false, 0, Kit.CODES.indexOf(c));
                x.resume(0, 9);
                kit.same(c + " at " + k, Kit.reports(x), "1 1");
            }
        }
        kit.same("the rightmost", Tried.found(Kit.elem(Kit.var(1), Kit.num(0))), "'U'");
        kit.same("the leftmost", Tried.found(Kit.elem(Kit.var(1), Kit.num(3))), "'1'");
    }

    private static void parts() {
        kit.says(TERMS, "83 a part (; 80 or 81 of rows, two of kind 2: the first element from the right, how many, 1 "
                + "at least, all of them there).");
        places(83, 0, "R", "2", "2");
        justSoMany(() -> Kit.part(Kit.var(1), 0, 1));
        for (int first = -2; first <= 5; first++) {
            for (int many = -1; many <= 6; many++) {
                String what = first + ", " + many;
                if (first >= 0 && many >= 1 && first + many <= 4) {
                    right(what, Kit.part(Kit.sig(1), first, many));
                    right(what, Kit.part(Kit.var(1), first, many));
                    kit.same(what, Tried.found(Kit.part(Kit.var(1), first, many)),
                            "[" + "10XU".substring(4 - first - many, 4 - first) + "]");
                } else {
                    wrong(what, Kit.part(Kit.sig(1), first, many));
                    wrong(what, Kit.part(Kit.var(1), first, many));
                }
            }
        }
        int[][] far = {{BIG, 1}, {1, BIG}, {BIG, BIG}, {-BIG, BIG}, {BIG, -BIG}, {-BIG, -BIG}, {-1, BIG}, {64, 1}};
        for (int[] f : far) {
            wrong(f[0] + ", " + f[1], Kit.part(Kit.sig(1), f[0], f[1]));
        }
        StepCode x = new StepCode();
        x.signal(1, 64, 0);
        Kit.Tree all = Kit.part(Kit.sig(0), 0, 64);
        kit.same("all of 64", Kit.make(x, Kit.report(all)), 0);
        Kit.Tree last = Kit.part(Kit.sig(0), 63, 1);
        kit.same("the last of 64", Kit.make(x, Kit.report(last)), 1);
        Kit.Tree beyond = Kit.part(Kit.sig(0), 63, 2);
        kit.same("beyond 64", Kit.make(x, Kit.report(beyond)), -1 - 3);
        Kit.Tree two = Kit.part(Kit.sig(0), 1, 64);
        kit.same("64 from the second on", Kit.make(x, Kit.report(two)), -1 - 3);
    }

    private static void edgesOfSignals() {
        kit.says(TERMS, "84 (8 rising, 9 falling; 80 of LOGIC)");
        for (int value = 8; value <= 9; value++) {
            int of = value;
            places(84, of, "L");
            justSoMany(() -> Kit.t(84, of, Kit.sig(0)));
        }
        for (int value : new int[] {-1, 0, 7, 12, BIG, BEYOND}) {
            wrong("84 of " + value, Kit.t(84, value, Kit.sig(0)));
            wrong("84 of " + value, Kit.t(84, value, Kit.num(1), Kit.num(1)));
        }
    }

    private static void conversions() {
        kit.says(TERMS, "(10; expression: the number of a row)");
        places(84, 10, "e");
        justSoMany(() -> Kit.t(84, 10, Kit.sig(1)));
        kit.says(TERMS, "(11; expression, kind 2 of 1 .. 64: the lowest so many bits of a NUMBER as ZEROs and "
                + "ONEs, one below 0 counting 2^64 more).");
        places(84, 11, "e", "2");
        justSoMany(() -> Kit.t(84, 11, Kit.num(1), Kit.num(1)));
        for (int n : new int[] {-BIG, -1, 0, 65, BIG}) {
            wrong(n + " bits", Kit.t(84, 11, Kit.num(1), Kit.num(n)));
        }
        for (int number : new int[] {-BIG, -2, -1, 0, 1, 2, BIG}) {
            String bits = Long.toBinaryString(number);
            String all = "0".repeat(64 - bits.length()) + bits;
            for (int n : new int[] {1, 2, 31, 32, 33, 63, 64}) {
                kit.same(n + " bits of " + number, Tried.found(Kit.t(84, 11, Kit.num(number), Kit.num(n))),
                        "[" + all.substring(64 - n) + "]");
            }
        }
    }

    private static void ofSignals() {
        kit.says(TERMS, "85 (15 event, 16 active: a truth; 17 the last value; 80).");
        for (int value = 15; value <= 17; value++) {
            int of = value;
            places(85, of, "S");
            justSoMany(() -> Kit.t(85, of, Kit.sig(0)));
        }
        for (int value : new int[] {-1, 0, 14, 18, BIG, BEYOND}) {
            wrong("85 of " + value, Kit.t(85, value, Kit.sig(0)));
        }
    }

    private static void ones() {
        kit.says(TERMS, "20 (0 not, 1 minus, 2 plus, 3 size; expression).");
        for (int value : new int[] {0, 3}) {
            int of = value;
            places(20, of, "e");
            justSoMany(() -> Kit.one(of, Kit.num(1)));
        }
        for (int value : new int[] {-1, 4, BIG, BEYOND}) {
            wrong("20 of " + value, Kit.one(value, Kit.num(1)));
        }
    }

    private static void twos() {
        kit.says(TERMS, "18 remainder, 19 shifted to the left, 20 to the right; two expressions).");
        for (int value : new int[] {0, 20}) {
            int of = value;
            places(21, of, "e", "e");
            justSoMany(() -> Kit.two(of, Kit.num(1), Kit.num(1)));
        }
        for (int value : new int[] {-1, 21, BIG, BEYOND}) {
            wrong("21 of " + value, Kit.two(value, Kit.num(1), Kit.num(1)));
        }
    }

    private static void leaves() {
        kit.says(TERMS, "0 NOTHING. 37 OTHERS.");
        justSoMany(Kit::nothing);
        justSoMany(Kit::others);
    }

    private static void times() {
        kit.says(TERMS, "32 a TIME (its unit 1 .. 1000000; expression).");
        places(32, 1, "e");
        justSoMany(() -> Kit.time(1000000, Kit.num(1)));
        for (int unit : new int[] {BEYOND, -1, 0, 1000001, BIG}) {
            wrong("a unit of " + unit, Kit.time(unit, Kit.num(1)));
        }
        for (int unit : new int[] {1, 2, 999999, 1000000}) {
            right("a unit of " + unit, Kit.time(unit, Kit.num(-1)));
        }
    }

    private static void lists() {
        kit.says(TERMS, "48 a LIST (; any).");
        right("an empty one", Kit.list());
        for (Sample sample : samples()) {
            right("of one", Kit.list(sample.tree.get()));
            right("of two", Kit.list(sample.tree.get(), Kit.nothing()));
        }
    }

    private static void targets() {
        kit.says(TERMS, "A TARGET is 80, 81, or 82, 83 of such, a signal or a variable.");
        Kit.Tree[] signals = {Kit.sig(0), Kit.sig(1), Kit.elem(Kit.sig(1), Kit.var(2)), Kit.part(Kit.sig(1), 3, 1)};
        for (Kit.Tree target : signals) {
            right("a signal's", Kit.assign(1, target, Kit.wave(Kit.num(1))));
            wrong("a signal's is no variable's", Kit.let(target, Kit.num(1)));
        }
        Kit.Tree[] variables = {Kit.var(0), Kit.var(1), Kit.elem(Kit.var(1), Kit.sig(2)), Kit.part(Kit.var(1), 3, 1)};
        for (Kit.Tree target : variables) {
            right("a variable's", Kit.let(target, Kit.num(1)));
            wrong("a variable's is no signal's", Kit.assign(1, target, Kit.wave(Kit.num(1))));
        }
    }

    private static Kit.Tree waves(int mode, boolean limit, int many) {
        Kit.Tree made = Kit.assign(mode, Kit.sig(0));
        if (limit) {
            made.kids.add(Kit.time(1, Kit.num(0)));
        }
        for (int i = 0; i < many; i++) {
            made.kids.add(Kit.wave(Kit.logic('0'), i));
        }
        return made;
    }

    private static void assigns() {
        kit.says(TERMS, "30 ASSIGN (0 or 1; signal's target, {31}+), (2; signal's target, TIME, {31}+), 16 of 31 at "
                + "most; 31 is (; expression, TIME or NOTHING).");
        places(30, 0, "T", "w");
        places(30, 1, "T", "w", "w");
        places(30, 2, "T", "t", "w");
        places(31, 0, "e", "t/n");
        justSoMany(() -> Kit.wave(Kit.num(1)));
        for (int mode : new int[] {BEYOND, -1, 0, 1, 2, 3, BIG}) {
            for (int many : new int[] {0, 1, 2, 15, 16, 17, 18}) {
                for (int limit = 0; limit <= 1; limit++) {
                    String what = "mode " + mode + ", limit " + limit + ", values " + many;
                    boolean fits = many >= 1 && many <= 16
                            && (limit == 1 ? mode == 2 : mode == 0 || mode == 1);
                    Kit.Tree tree = waves(mode, limit == 1, many);
                    if (fits) {
                        right(what, tree);
                    } else {
                        wrong(what, tree);
                    }
                }
            }
        }
        wrong("of nothing at all", Kit.assign(0));
    }

    private static void sets() {
        kit.says(TERMS, "33 SET (; variable's target, expression).");
        places(33, 0, "V", "e");
        justSoMany(() -> Kit.let(Kit.var(0), Kit.num(1)));
    }

    private static void ifs() {
        kit.says(TERMS, "34 IF (; expression, statements, {expression, statements}, [statements]), statements being a "
                + "LIST of statements.");
        places(34, 0, "e", "s");
        places(34, 0, "e", "s", "s");
        places(34, 0, "e", "s", "e", "s");
        places(34, 0, "e", "s", "e", "s", "s");
        wrong("of none", Kit.choose());
        for (Sample sample : samples()) {
            wrong("of one", Kit.choose(sample.tree.get()));
        }
        for (int first = 0; first < 4; first++) {
            StepCode x = new StepCode();
            Kit.make(x, Kit.choose(Kit.num(first == 0 ? -1 : 0), Kit.list(Kit.report(Kit.num(10))),
                    Kit.num(first == 1 ? 1 : 0), Kit.list(Kit.report(Kit.num(20))), Kit.num(first <= 2 ? 7 : 0),
                    Kit.list(Kit.report(Kit.num(30))), Kit.list(Kit.report(Kit.num(40)))), Kit.pause());
            x.resume(0, 9);
            kit.same("the first that is true, or the last", Kit.reports(x), "" + (10 * first + 10));
            kit.same("steps", x.about(0, 5), 4);
        }
        for (int many = 1; many <= 60; many++) {
            Kit.Tree tree = Kit.choose();
            for (int i = 0; i < many; i++) {
                tree.kids.add(Kit.num(0));
                tree.kids.add(Kit.list());
            }
            right(many + " expressions", tree);
            tree.kids.add(Kit.list());
            right(many + " expressions and the rest", tree);
        }
    }

    private static void cases() {
        kit.says(TERMS, "35 CASE (; expression, {36}+), 36 is (; LIST of 2, 3, 4 or OTHERS, one at least, "
                + "statements).");
        places(35, 0, "e", "c");
        places(35, 0, "e", "c", "c");
        places(36, 0, "l", "s");
        justSoMany(() -> Kit.choice(Kit.list(Kit.num(1))));
        wrong("of none", Kit.cases());
        for (Sample sample : samples()) {
            wrong("of one", Kit.cases(sample.tree.get()));
        }
        wrong("36 of none", Kit.t(36, 0));
        wrong("36 of an empty LIST", Kit.choice(Kit.list()));
        for (Sample sample : samples()) {
            boolean fits = fits(sample, "2/3") || sample.tree.get().kind == 4 || sample.tree.get().kind == 37;
            Kit.Tree alone = Kit.choice(Kit.list(sample.tree.get()));
            Kit.Tree behind = Kit.choice(Kit.list(Kit.num(1), sample.tree.get()));
            if (fits) {
                right("36 of it", alone);
                right("36 of it, behind another", behind);
            } else {
                wrong("36 of it", alone);
                wrong("36 of it, behind another", behind);
            }
        }
    }

    private static void fors() {
        kit.says(TERMS, "38 FOR up, 39 FOR down (; 81 of NUMBERs, two expressions, statements).");
        for (int kind = 38; kind <= 39; kind++) {
            int of = kind;
            places(of, 0, "N", "e", "e", "s");
            justSoMany(() -> Kit.t(of, 0, Kit.var(2), Kit.num(1), Kit.num(1), Kit.list()));
        }
    }

    private static void whilesAndLoops() {
        kit.says(TERMS, "40 WHILE (; expression, statements). 41 LOOP (; statements).");
        places(40, 0, "e", "s");
        justSoMany(() -> Kit.loopWhile(Kit.num(1)));
        places(41, 0, "s");
        justSoMany(() -> Kit.loop());
    }

    private static void exits() {
        kit.says(TERMS, "42 EXIT, 43 NEXT (; expression or NOTHING), in a loop (38 to 41) of the process.");
        for (int kind = 42; kind <= 43; kind++) {
            int of = kind;
            places(of, 0, "e/n");
            justSoMany(() -> Kit.t(of, 0, Kit.nothing()));
            Supplier<Kit.Tree> leave = () -> Kit.t(of, 0, Kit.nothing());
            right("in a FOR up", Kit.up(Kit.var(2), Kit.num(1), Kit.num(1), leave.get()));
            right("in a FOR down", Kit.down(Kit.var(2), Kit.num(1), Kit.num(1), leave.get()));
            right("in a WHILE", Kit.loopWhile(Kit.num(1), leave.get()));
            right("in a LOOP", Kit.loop(leave.get()));
            right("in an IF in a LOOP", Kit.loop(Kit.choose(Kit.num(1), Kit.list(leave.get()))));
            right("in a CASE in a LOOP", Kit.loop(Kit.cases(Kit.num(1), Kit.choice(Kit.list(Kit.others()),
                    leave.get()))));
        }
    }

    /** Not in one: beside it, behind it, before it, or in another tree. */
    private static void exitsInWhichLoop() {
        for (int kind = 42; kind <= 43; kind++) {
            Kit.Tree[] leaves = new Kit.Tree[6];
            for (int i = 0; i < leaves.length; i++) {
                leaves[i] = Kit.t(kind, 0, Kit.nothing());
            }
            Kit.Tree[] bodies = {
                Kit.list(leaves[0]), Kit.list(Kit.loop(), leaves[1]), Kit.list(leaves[2], Kit.loop()),
                Kit.list(Kit.choose(Kit.num(1), Kit.list(leaves[3]))),
                Kit.list(Kit.choose(Kit.num(1), Kit.list(Kit.loop()), Kit.list(leaves[4]))),
                Kit.list(Kit.cases(Kit.num(1), Kit.choice(Kit.list(Kit.others()), leaves[5])))};
            for (int i = 0; i < bodies.length; i++) {
                StepCode x = ground();
                bodies[i].plant(x);
                kit.same(kind + " in no loop, " + i, x.process(), -1 - leaves[i].number);
            }
            StepCode y = ground();
            Kit.Tree alone = Kit.t(kind, 0, Kit.nothing());
            alone.plant(y);
            Kit.list(Kit.loop()).plant(y);
            kit.same(kind + " in another tree", y.process(), -1 - alone.number);
        }
    }

    private static void waits() {
        kit.says(TERMS, "44 WAIT (; LIST of 80s, expression or NOTHING, TIME or NOTHING).");
        places(44, 0, "g", "e/n", "t/n");
        justSoMany(() -> Kit.pause());
        Kit.Tree many = Kit.list();
        for (int i = 0; i < 200; i++) {
            many.kids.add(Kit.sig(i % 3));
        }
        right("for many", Kit.pause(many, Kit.nothing(), Kit.nothing()));
        many.kids.set(199, Kit.var(0));
        wrong("for many, one a variable", Kit.pause(many, Kit.nothing(), Kit.nothing()));
    }

    private static void otherStatements() {
        kit.says(TERMS, "45 NULL. 46 REPORT (; expression). 47 ASSERT (; two expressions).");
        justSoMany(Kit::skip);
        places(46, 0, "e");
        justSoMany(() -> Kit.report(Kit.num(1)));
        places(47, 0, "e", "e");
        justSoMany(() -> Kit.check(Kit.num(1), Kit.num(1)));
    }

    private static void noneOfThese() {
        kit.says(TERMS, "A node is WRONG that is none of these");
        List<Integer> known = List.of(0, 2, 3, 4, 20, 21, 80, 81, 82, 83, 84, 85);
        for (int kind = 0; kind <= 99; kind++) {
            if (kind >= 30 && kind <= 48 || known.contains(kind)) {
                continue;
            }
            wrong("kind " + kind, Kit.t(kind, 0));
            wrong("kind " + kind, Kit.t(kind, 1, Kit.num(1)));
            wrong("kind " + kind, Kit.t(kind, 0, Kit.num(1), Kit.list()));
        }
    }

    /** A NUMBER under so many nodes, with a leaf beside each so that the tree is no mere chain. */
    private static Kit.Tree deep(int above) {
        Kit.Tree tree = Kit.num(0);
        for (int i = 0; i < above; i++) {
            tree = i % 2 == 0 ? Kit.two(12, tree, Kit.num(1)) : Kit.two(12, Kit.num(1), tree);
        }
        return tree;
    }

    private static void height() {
        kit.says(TERMS, "or has more than 100 nodes one below the other (itself one).");
        StepCode x = new StepCode();
        Kit.Tree fits = deep(97);
        kit.same("100 in the body", Kit.make(x, Kit.report(fits), Kit.pause()), 0);
        x.resume(0, 9);
        kit.same("which is found", Kit.reports(x), "97");
        Kit.Tree toTheRight = Kit.num(0);
        for (int i = 1; i <= 97; i++) {
            toTheRight = Kit.two(13, Kit.num(i), toTheRight);
        }
        kit.same("100, leaning to the right", Kit.make(x, Kit.report(toTheRight), Kit.pause()), 1);
        x.resume(1, 9);
        kit.same("which is found", Kit.reports(x), "49");
        StepCode y = new StepCode();
        Kit.Tree body = Kit.list(Kit.report(deep(98)));
        body.plant(y);
        kit.same("101 in the body", y.process(), -1 - body.number);
        StepCode z = new StepCode();
        Kit.Tree first = deep(100);
        Kit.list(Kit.report(Kit.one(2, first))).plant(z);
        kit.same("of many the first", z.process(), -1 - first.number);
        StepCode u = new StepCode();
        Kit.Tree bad = Kit.t(99, 0);
        Kit.list(Kit.report(deep(98)), bad).plant(u);
        kit.same("another one before it", u.process(), -1 - bad.number);
        StepCode v = new StepCode();
        Kit.Tree shallow = Kit.list();
        for (int i = 0; i < 300; i++) {
            shallow.kids.add(Kit.skip());
        }
        shallow.plant(v);
        kit.same("301 nodes beside each other", v.process(), 0);
        StepCode w = new StepCode();
        w.add(48, 0, 0);
        for (int i = 1; i < 150; i++) {
            w.add(48, 0, 1);
        }
        kit.same("LISTs", w.process(), -1 - 100);
    }

    /** The deepest statements and their deepest expressions run. */
    private static void heightOfStatements() {
        StepCode x = new StepCode();
        Kit.Tree list = Kit.list(Kit.report(deep(1)), Kit.pause());
        int ifs = 0;
        for (int height = 4; height + 2 <= 100; height += 2) {
            list = Kit.list(Kit.choose(Kit.num(1), list));
            ifs++;
        }
        list.plant(x);
        kit.same("IFs in IFs, 100 high", x.process(), 0);
        kit.same("they end at the WAIT", x.resume(0, 10000), StepCode.WAITS);
        kit.same("steps", x.about(0, 5), 1 + ifs + 2);
        kit.same("what is innermost", Kit.reports(x), "1");
        kit.same("and all again", x.resume(0, 10000), StepCode.WAITS);
        kit.same("steps", x.about(0, 5), 2 * (1 + ifs + 2));
    }

    private static void bodies() {
        kit.says(TERMS, "A PROCESS is one tree: a LIST of statements.");
        for (Sample sample : samples()) {
            StepCode x = ground();
            Kit.Tree list = Kit.list(sample.tree.get());
            list.plant(x);
            kit.same("a LIST of " + list.kids.get(0).kind, x.process(),
                    fits(sample, "q") ? 0 : -1 - list.number);
            StepCode y = ground();
            Kit.Tree alone = sample.tree.get();
            alone.plant(y);
            kit.same("alone " + alone.kind, y.process(), fits(sample, "s") ? 0 : -1 - alone.number);
        }
    }
}
