import java.util.function.Supplier;

/** Nodes, what is WRONG, and processes: promises 4, 5, 6. */
public final class TreesTest {
    private static Kit kit;

    public static void main(String[] args) {
        kit = new Kit("TreesTest");
        nodes();
        usedUp();
        bodies();
        wrongLeaves();
        wrongExpressions();
        wrongParts();
        wrongStatements();
        wrongChoices();
        loops();
        rightStatements();
        height();
        manyProcesses();
        manyNodes();
        kit.end();
    }

    /** Signals 0 LOGIC, 1 row of 4, 2 NUMBER; variables likewise. */
    private static StepCode ground() {
        StepCode x = new StepCode();
        x.signal(0, 0, 0);
        x.signal(1, 4, 0);
        x.signal(2, 0, 9);
        x.variable(0, 0, 0);
        x.variable(1, 4, 0);
        x.variable(2, 0, 9);
        return x;
    }

    /** The tree, in a report if it is an expression, is refused at its own node. */
    private static void wrong(String what, Kit.Tree tree) {
        StepCode x = ground();
        Kit.list(tree).plant(x);
        kit.same(what, x.process(), -1 - tree.number);
        kit.same(what + ": processes", x.processes(), 0);
    }

    private static void right(String what, Kit.Tree statement) {
        StepCode x = ground();
        kit.same(what, Kit.make(x, statement), 0);
        kit.same(what + ": processes", x.processes(), 1);
    }

    private static void rightExpression(String what, Kit.Tree expression) {
        right(what, Kit.report(expression));
    }

    private static void nodes() {
        StepCode x = new StepCode();
        kit.fails("kind -1", Kit.ARGUMENT, () -> x.add(-1, 0, 0));
        kit.fails("kind 100", Kit.ARGUMENT, () -> x.add(100, 0, 0));
        kit.fails("n -1", Kit.ARGUMENT, () -> x.add(0, 0, -1));
        kit.fails("n 1", Kit.ARGUMENT, () -> x.add(0, 0, 1));
        kit.fails("n least", Kit.ARGUMENT, () -> x.add(0, 0, Integer.MIN_VALUE));
        kit.same("node 0", x.add(99, Integer.MIN_VALUE, 0), 0);
        kit.same("node 1", x.add(0, 0, 0), 1);
        kit.fails("n 3 of two trees", Kit.ARGUMENT, () -> x.add(48, 0, 3));
        kit.same("node 2", x.add(48, 0, 2), 2);
        kit.fails("n 2 of one tree", Kit.ARGUMENT, () -> x.add(48, 0, 2));
        kit.same("node 3", x.add(48, 0, 1), 3);
        kit.same("node 0 is WRONG", x.process(), -1);
    }

    private static void usedUp() {
        StepCode x = new StepCode();
        x.variable(2, 5, 6);
        x.add(2, 1, 0);
        kit.same("no process", x.process(), -1);
        kit.fails("its tree is used up", Kit.ARGUMENT, () -> x.add(46, 0, 1));
        kit.same("nodes begin again", x.add(81, 0, 0), 0);
        x.add(46, 0, 1);
        x.add(48, 0, 1);
        kit.same("its variable is used up", x.process(), -1);
        x.variable(2, 7, 8);
        kit.same("process", Kit.make(x, Kit.report(Kit.var(0)), Kit.pause()), 0);
        kit.same("nodes begin again", x.add(45, 0, 0), 0);
        x.resume(0, 10);
        kit.same("it has its own variable", Kit.reports(x), "7");
        kit.same("processes", x.processes(), 1);
    }

    private static void bodies() {
        StepCode x = new StepCode();
        kit.same("no tree", x.process(), -1);
        x.add(48, 0, 0);
        x.add(48, 0, 0);
        kit.same("two trees", x.process(), -2);
        x.add(45, 0, 0);
        kit.same("a statement", x.process(), -1);
        Kit.list(Kit.skip(), Kit.num(1)).plant(x);
        kit.same("a LIST of others", x.process(), -3);
        Kit.list(Kit.list()).plant(x);
        kit.same("a LIST of a LIST", x.process(), -2);
        Kit.list(Kit.wave(Kit.num(1))).plant(x);
        kit.same("a LIST of 31", x.process(), -4);
        Kit.list(Kit.choice(Kit.list(Kit.others()))).plant(x);
        kit.same("a LIST of 36", x.process(), -5);
        Kit.list(Kit.time(1, Kit.num(1))).plant(x);
        kit.same("a LIST of a TIME", x.process(), -3);
        x.add(5, 0, 0);
        x.add(45, 0, 0);
        x.add(6, 0, 0);
        kit.same("of two WRONG ones the first", x.process(), -1);
        x.add(45, 0, 0);
        x.add(45, 1, 0);
        x.add(45, 0, 0);
        kit.same("WRONG comes before not one tree", x.process(), -2);
        kit.same("processes", x.processes(), 0);
        kit.same("an empty LIST", Kit.make(x), 0);
        kit.same("the next one", Kit.make(x, Kit.skip()), 1);
        kit.same("processes", x.processes(), 2);
    }

    private static void wrongLeaves() {
        int[] known = {0, 2, 3, 4, 20, 21, 80, 81, 82, 83, 84, 85};
        for (int kind = 0; kind <= 99; kind++) {
            boolean is = kind >= 30 && kind <= 48;
            for (int k : known) {
                is |= k == kind;
            }
            if (!is) {
                wrong("kind " + kind, Kit.t(kind, 0));
            }
        }
        wrong("a NUMBER beyond", Kit.num(Integer.MIN_VALUE));
        wrong("a NUMBER with a child", Kit.t(2, 1, Kit.num(1)));
        wrong("LOGIC -1", Kit.t(3, -1));
        wrong("LOGIC 9", Kit.t(3, 9));
        wrong("LOGIC with a child", Kit.t(3, 1, Kit.num(1)));
        wrong("a ROW of none", Kit.t(4, 0));
        wrong("a ROW with a value", Kit.t(4, 1, Kit.t(3, 1)));
        wrong("a ROW of a NUMBER", Kit.t(4, 0, Kit.t(3, 1), Kit.num(1)));
        wrong("a ROW of a NUMBER first", Kit.t(4, 0, Kit.num(1), Kit.t(3, 1)));
        wrong("a ROW of a NUMBER alone", Kit.t(4, 0, Kit.num(1)));
        wrong("a ROW of 65", Kit.row("0".repeat(65)));
        rightExpression("a ROW of 64", Kit.row("0".repeat(64)));
        rightExpression("a ROW of 1", Kit.row("-"));
        rightExpression("the least NUMBER", Kit.num(-Kit.BIG));
        wrong("signal 3", Kit.sig(3));
        wrong("signal -1", Kit.sig(-1));
        wrong("variable 3", Kit.var(3));
        wrong("variable -1", Kit.var(-1));
        wrong("a signal with a child", Kit.t(80, 0, Kit.num(1)));
        wrong("a variable with a child", Kit.t(81, 0, Kit.num(1)));
        wrong("NOTHING with a value", Kit.t(0, 1));
        wrong("NOTHING with a child", Kit.t(0, 0, Kit.num(1)));
        wrong("OTHERS with a value", Kit.t(37, 1));
        wrong("OTHERS with a child", Kit.t(37, 0, Kit.num(1)));
        wrong("a LIST with a value", Kit.t(48, 1));
        StepCode x = new StepCode();
        Kit.list(Kit.report(Kit.sig(0)), Kit.report(Kit.var(0))).plant(x);
        x.signal(0, 0, 0);
        x.variable(0, 0, 0);
        kit.same("a signal and a variable made behind the nodes", x.process(), 0);
    }

    private static void wrongExpressions() {
        for (int value : new int[] {-1, 4, 99}) {
            wrong("20 " + value, Kit.one(value, Kit.num(1)));
        }
        for (int value = 0; value <= 3; value++) {
            rightExpression("20 " + value, Kit.one(value, Kit.num(1)));
        }
        wrong("20 of none", Kit.t(20, 0));
        wrong("20 of two", Kit.t(20, 0, Kit.num(1), Kit.num(1)));
        wrong("20 of NOTHING", Kit.one(0, Kit.nothing()));
        wrong("20 of a LIST", Kit.one(0, Kit.list()));
        wrong("21 -1", Kit.two(-1, Kit.num(1), Kit.num(1)));
        wrong("21 21", Kit.two(21, Kit.num(1), Kit.num(1)));
        for (int value = 0; value <= 20; value++) {
            rightExpression("21 " + value, Kit.two(value, Kit.num(1), Kit.row("0")));
        }
        wrong("21 of one", Kit.t(21, 0, Kit.num(1)));
        wrong("21 of three", Kit.t(21, 0, Kit.num(1), Kit.num(1), Kit.num(1)));
        wrong("21 of OTHERS", Kit.two(0, Kit.num(1), Kit.others()));
        wrong("21 of a TIME", Kit.two(0, Kit.time(1, Kit.num(1)), Kit.num(1)));
        wrong("21 of a statement", Kit.two(0, Kit.skip(), Kit.num(1)));
        for (int value : new int[] {0, -1, 1000001, Kit.BIG}) {
            wrong("TIME " + value, Kit.time(value, Kit.num(1)));
        }
        wrong("TIME of none", Kit.t(32, 1));
        wrong("TIME of two", Kit.t(32, 1, Kit.num(1), Kit.num(1)));
        wrong("TIME of NOTHING", Kit.time(1, Kit.nothing()));
        right("TIME 1000000", Kit.pause(Kit.list(), Kit.nothing(), Kit.time(1000000, Kit.row("0"))));
    }

    private static void wrongParts() {
        wrong("82 with a value", Kit.t(82, 1, Kit.sig(1), Kit.num(0)));
        wrong("82 of one", Kit.t(82, 0, Kit.sig(1)));
        wrong("82 of three", Kit.t(82, 0, Kit.sig(1), Kit.num(0), Kit.num(0)));
        wrong("82 of LOGIC", Kit.elem(Kit.sig(0), Kit.num(0)));
        wrong("82 of NUMBERs", Kit.elem(Kit.var(2), Kit.num(0)));
        wrong("82 of a ROW", Kit.elem(Kit.row("01"), Kit.num(0)));
        wrong("82 of NOTHING", Kit.elem(Kit.var(1), Kit.nothing()));
        rightExpression("82 that is not there", Kit.elem(Kit.var(1), Kit.num(9)));
        int[][] parts = {{0, 0}, {-1, 2}, {0, 5}, {3, 2}, {4, 1}, {Kit.BIG, Kit.BIG}, {0, -1}, {1, Kit.BIG}};
        for (int[] p : parts) {
            wrong("83 " + p[0] + " " + p[1], Kit.part(Kit.sig(1), p[0], p[1]));
        }
        for (int[] p : new int[][] {{0, 4}, {3, 1}, {0, 1}, {1, 2}}) {
            rightExpression("83 " + p[0] + " " + p[1], Kit.part(Kit.var(1), p[0], p[1]));
        }
        wrong("83 with a value", Kit.t(83, 1, Kit.sig(1), Kit.num(0), Kit.num(1)));
        wrong("83 of two", Kit.t(83, 0, Kit.sig(1), Kit.num(0)));
        wrong("83 of an expression", Kit.t(83, 0, Kit.sig(1), Kit.one(2, Kit.num(0)), Kit.num(1)));
        wrong("83 so many of an expression", Kit.t(83, 0, Kit.sig(1), Kit.num(0), Kit.one(2, Kit.num(1))));
        wrong("83 of LOGIC", Kit.part(Kit.var(0), 0, 1));
        wrong("83 of a part", Kit.part(Kit.part(Kit.sig(1), 0, 2), 0, 1));
        for (int edge = 8; edge <= 9; edge++) {
            rightExpression("84 " + edge, Kit.t(84, edge, Kit.sig(0)));
            wrong("84 " + edge + " of a row", Kit.t(84, edge, Kit.sig(1)));
            wrong("84 " + edge + " of a variable", Kit.t(84, edge, Kit.var(0)));
            wrong("84 " + edge + " of two", Kit.t(84, edge, Kit.sig(0), Kit.sig(0)));
            wrong("84 " + edge + " of none", Kit.t(84, edge));
        }
        for (int value : new int[] {7, 12, 0, -1}) {
            wrong("84 " + value, Kit.t(84, value, Kit.sig(0)));
        }
        wrong("84 10 of two", Kit.t(84, 10, Kit.sig(1), Kit.num(1)));
        wrong("84 10 of OTHERS", Kit.t(84, 10, Kit.others()));
        wrong("84 11 of 0", Kit.t(84, 11, Kit.num(1), Kit.num(0)));
        wrong("84 11 of 65", Kit.t(84, 11, Kit.num(1), Kit.num(65)));
        wrong("84 11 of NOTHING", Kit.t(84, 11, Kit.nothing(), Kit.num(4)));
        wrong("84 11 of one", Kit.t(84, 11, Kit.num(1)));
        wrong("84 11 of a variable", Kit.t(84, 11, Kit.num(1), Kit.var(2)));
        rightExpression("84 11 of 64", Kit.t(84, 11, Kit.sig(0), Kit.num(64)));
        for (int value = 15; value <= 17; value++) {
            rightExpression("85 " + value, Kit.t(85, value, Kit.sig(value - 15)));
            wrong("85 of a variable", Kit.t(85, value, Kit.var(0)));
            wrong("85 of an element", Kit.t(85, value, Kit.elem(Kit.sig(1), Kit.num(0))));
        }
        wrong("85 14", Kit.t(85, 14, Kit.sig(0)));
        wrong("85 18", Kit.t(85, 18, Kit.sig(0)));
        wrong("85 of two", Kit.t(85, 15, Kit.sig(0), Kit.sig(0)));
    }

    private static Kit.Tree waves(int mode, boolean limit, int many) {
        Kit.Tree made = Kit.assign(mode, Kit.sig(0));
        if (limit) {
            made.kids.add(Kit.time(1, Kit.num(0)));
        }
        for (int i = 0; i < many; i++) {
            made.kids.add(Kit.wave(Kit.logic('0'), i));
        }
        return made;
    }

    private static void wrongStatements() {
        for (int mode = 0; mode <= 2; mode++) {
            boolean limit = mode == 2;
            right("ASSIGN " + mode, waves(mode, limit, 1));
            right("ASSIGN of 16 " + mode, waves(mode, limit, 16));
            wrong("ASSIGN of 17 " + mode, waves(mode, limit, 17));
            wrong("ASSIGN of none " + mode, waves(mode, limit, 0));
            wrong("ASSIGN with another's limit " + mode, waves(mode, !limit, 1));
        }
        wrong("ASSIGN 3", waves(3, false, 1));
        wrong("ASSIGN 3 with a limit", waves(3, true, 1));
        wrong("ASSIGN -1", waves(-1, false, 1));
        wrong("ASSIGN without anything", Kit.assign(0));
        wrong("ASSIGN to a variable", Kit.assign(0, Kit.var(0), Kit.wave(Kit.num(0))));
        wrong("ASSIGN to a variable's element",
                Kit.assign(0, Kit.elem(Kit.var(1), Kit.num(0)), Kit.wave(Kit.num(0))));
        wrong("ASSIGN to a last value", Kit.assign(0, Kit.t(85, 17, Kit.sig(0)), Kit.wave(Kit.num(0))));
        wrong("ASSIGN of an expression", Kit.assign(0, Kit.sig(0), Kit.num(0)));
        right("ASSIGN to an element", Kit.assign(0, Kit.elem(Kit.sig(1), Kit.num(0)), Kit.wave(Kit.num(0))));
        right("ASSIGN to a part", Kit.assign(0, Kit.part(Kit.sig(1), 0, 2), Kit.wave(Kit.num(0))));
        wrong("31 with a value", Kit.t(31, 1, Kit.num(0), Kit.nothing()));
        wrong("31 of one", Kit.t(31, 0, Kit.num(0)));
        wrong("31 of two expressions", Kit.t(31, 0, Kit.num(0), Kit.num(0)));
        wrong("31 of NOTHING", Kit.t(31, 0, Kit.nothing(), Kit.nothing()));
        wrong("SET a signal", Kit.let(Kit.sig(0), Kit.num(1)));
        wrong("SET a signal's part", Kit.let(Kit.part(Kit.sig(1), 0, 1), Kit.num(1)));
        wrong("SET a NUMBER", Kit.let(Kit.num(1), Kit.num(1)));
        wrong("SET with a value", Kit.t(33, 1, Kit.var(0), Kit.num(1)));
        wrong("SET NOTHING", Kit.let(Kit.var(0), Kit.nothing()));
        wrong("SET of three", Kit.t(33, 0, Kit.var(0), Kit.num(1), Kit.num(1)));
        wrong("NULL with a value", Kit.t(45, 1));
        wrong("NULL with a child", Kit.t(45, 0, Kit.num(1)));
        wrong("REPORT with a value", Kit.t(46, 1, Kit.num(1)));
        wrong("REPORT of none", Kit.t(46, 0));
        wrong("REPORT NOTHING", Kit.report(Kit.nothing()));
        wrong("ASSERT of one", Kit.t(47, 0, Kit.num(1)));
        wrong("ASSERT with a value", Kit.t(47, 2, Kit.num(1), Kit.num(1)));
        wrong("ASSERT of NOTHING", Kit.check(Kit.nothing(), Kit.num(1)));
        wrong("ASSERT NOTHING", Kit.check(Kit.num(1), Kit.nothing()));
        wrong("WAIT with a value", Kit.t(44, 1, Kit.list(), Kit.nothing(), Kit.nothing()));
        wrong("WAIT of two", Kit.t(44, 0, Kit.list(), Kit.nothing()));
        wrong("WAIT without a LIST", Kit.pause(Kit.sig(0), Kit.nothing(), Kit.nothing()));
        wrong("WAIT for a variable", Kit.pause(Kit.list(Kit.var(0)), Kit.nothing(), Kit.nothing()));
        wrong("WAIT for an element", Kit.pause(Kit.list(Kit.elem(Kit.sig(1), Kit.num(0))), Kit.nothing(),
                Kit.nothing()));
        wrong("WAIT for a TIME as expression", Kit.pause(Kit.list(), Kit.time(1, Kit.num(1)), Kit.nothing()));
        wrong("WAIT for an expression as TIME", Kit.pause(Kit.list(), Kit.nothing(), Kit.num(1)));
    }

    private static void wrongChoices() {
        Supplier<Kit.Tree> e = () -> Kit.num(1);
        wrong("IF of none", Kit.choose());
        wrong("IF of an expression", Kit.choose(e.get()));
        wrong("IF of a LIST", Kit.choose(Kit.list()));
        wrong("IF of two LISTs", Kit.choose(Kit.list(), Kit.list()));
        wrong("IF of others", Kit.choose(e.get(), Kit.list(e.get())));
        wrong("IF with a value", Kit.t(34, 1, e.get(), Kit.list()));
        wrong("IF with an expression at its end", Kit.choose(e.get(), Kit.list(), e.get()));
        wrong("IF with two ends", Kit.choose(e.get(), Kit.list(), Kit.list(), Kit.list()));
        wrong("IF with a LIST of others at its end", Kit.choose(e.get(), Kit.list(), Kit.list(e.get())));
        right("IF", Kit.choose(e.get(), Kit.list()));
        right("IF and else", Kit.choose(e.get(), Kit.list(), Kit.list(Kit.skip())));
        right("IF and if", Kit.choose(e.get(), Kit.list(), e.get(), Kit.list()));
        right("IF, if and else", Kit.choose(e.get(), Kit.list(), e.get(), Kit.list(), Kit.list()));
        wrong("CASE of none", Kit.cases());
        wrong("CASE without a choice", Kit.cases(e.get()));
        wrong("CASE of NOTHING", Kit.cases(Kit.nothing(), Kit.choice(Kit.list(Kit.others()))));
        wrong("CASE of others", Kit.cases(e.get(), Kit.choice(Kit.list(Kit.others())), Kit.skip()));
        wrong("CASE of others first", Kit.cases(e.get(), Kit.skip(), Kit.choice(Kit.list(Kit.others()))));
        wrong("CASE with a value", Kit.t(35, 1, e.get(), Kit.choice(Kit.list(Kit.others()))));
        wrong("36 of an empty LIST", Kit.choice(Kit.list()));
        wrong("36 of a variable", Kit.choice(Kit.list(Kit.var(2))));
        wrong("36 of NOTHING", Kit.choice(Kit.list(Kit.num(1), Kit.nothing())));
        wrong("36 without a LIST", Kit.choice(Kit.num(1)));
        wrong("36 with a value", Kit.t(36, 1, Kit.list(e.get()), Kit.list()));
        wrong("36 without statements", Kit.t(36, 0, Kit.list(e.get())));
        wrong("36 with others", Kit.t(36, 0, Kit.list(e.get()), Kit.list(e.get())));
        wrong("36 of three", Kit.t(36, 0, Kit.list(e.get()), Kit.list(), Kit.list()));
        right("CASE", Kit.cases(e.get(), Kit.choice(Kit.list(Kit.num(1), Kit.logic('0'), Kit.row("01"), Kit.others()),
                Kit.skip()), Kit.choice(Kit.list(Kit.others()))));
    }

    private static void loops() {
        Supplier<Kit.Tree> e = () -> Kit.num(1);
        for (int kind = 38; kind <= 39; kind++) {
            right("FOR " + kind, Kit.t(kind, 0, Kit.var(2), e.get(), e.get(), Kit.list()));
            wrong("FOR of LOGIC " + kind, Kit.t(kind, 0, Kit.var(0), e.get(), e.get(), Kit.list()));
            wrong("FOR of a row " + kind, Kit.t(kind, 0, Kit.var(1), e.get(), e.get(), Kit.list()));
            wrong("FOR of a signal " + kind, Kit.t(kind, 0, Kit.sig(2), e.get(), e.get(), Kit.list()));
            wrong("FOR with a value " + kind, Kit.t(kind, 1, Kit.var(2), e.get(), e.get(), Kit.list()));
            wrong("FOR of three " + kind, Kit.t(kind, 0, Kit.var(2), e.get(), Kit.list()));
            wrong("FOR from NOTHING " + kind, Kit.t(kind, 0, Kit.var(2), Kit.nothing(), e.get(), Kit.list()));
            wrong("FOR to NOTHING " + kind, Kit.t(kind, 0, Kit.var(2), e.get(), Kit.nothing(), Kit.list()));
            wrong("FOR without statements " + kind, Kit.t(kind, 0, Kit.var(2), e.get(), e.get(), Kit.skip()));
        }
        wrong("WHILE of none", Kit.t(40, 0));
        wrong("WHILE of NOTHING", Kit.loopWhile(Kit.nothing()));
        wrong("WHILE with a value", Kit.t(40, 1, e.get(), Kit.list()));
        wrong("WHILE of others", Kit.t(40, 0, e.get(), Kit.list(e.get())));
        wrong("LOOP of none", Kit.t(41, 0));
        wrong("LOOP with a value", Kit.t(41, 1, Kit.list()));
        wrong("LOOP of two", Kit.t(41, 0, Kit.list(), Kit.list()));
        wrong("LOOP of a statement", Kit.t(41, 0, Kit.skip()));
        for (int kind = 42; kind <= 43; kind++) {
            wrong("in no loop " + kind, Kit.t(kind, 0, Kit.nothing()));
            Kit.Tree inIf = Kit.t(kind, 0, Kit.nothing());
            StepCode x = ground();
            Kit.list(Kit.loop(), Kit.choose(e.get(), Kit.list(inIf))).plant(x);
            kit.same("behind a loop, in an IF " + kind, x.process(), -1 - inIf.number);
            Kit.Tree deep = Kit.t(kind, 0, e.get());
            right("deep in a loop " + kind, Kit.loop(Kit.cases(e.get(), Kit.choice(Kit.list(Kit.others()),
                    Kit.choose(e.get(), Kit.list(), Kit.list(deep))))));
            right("in a FOR " + kind, Kit.up(Kit.var(2), e.get(), e.get(), Kit.t(kind, 0, Kit.nothing())));
            right("in a FOR down " + kind, Kit.down(Kit.var(2), e.get(), e.get(), Kit.t(kind, 0, Kit.nothing())));
            right("in a WHILE " + kind, Kit.loopWhile(e.get(), Kit.t(kind, 0, Kit.nothing())));
            for (Kit.Tree bad : new Kit.Tree[] {Kit.t(kind, 1, Kit.nothing()), Kit.t(kind, 0),
                Kit.t(kind, 0, Kit.list()), Kit.t(kind, 0, Kit.nothing(), Kit.nothing())}) {
                StepCode y = ground();
                Kit.list(Kit.loop(bad)).plant(y);
                kit.same("in a loop, but wrong " + kind, y.process(), -1 - bad.number);
            }
        }
    }

    private static void rightStatements() {
        right("NULL", Kit.skip());
        right("SET", Kit.let(Kit.var(0), Kit.row("0")));
        right("SET an element", Kit.let(Kit.elem(Kit.var(1), Kit.logic('0')), Kit.num(0)));
        right("SET a part", Kit.let(Kit.part(Kit.var(1), 3, 1), Kit.num(0)));
        right("ASSERT", Kit.check(Kit.num(0), Kit.logic('0')));
        right("WAIT", Kit.pause(Kit.list(Kit.sig(0), Kit.sig(2)), Kit.logic('X'), Kit.time(5, Kit.num(1))));
        right("LOOP", Kit.loop());
    }

    private static void height() {
        StepCode x = new StepCode();
        x.add(2, 1, 0);
        for (int i = 0; i < 97; i++) {
            x.add(20, 2, 1);
        }
        x.add(46, 0, 1);
        x.add(48, 0, 1);
        kit.same("100 one below the other", x.process(), 0);
        x.resume(0, 2);
        kit.same("and it runs", Kit.reports(x), "1");
        x.add(2, 1, 0);
        for (int i = 0; i < 98; i++) {
            x.add(20, 2, 1);
        }
        x.add(46, 0, 1);
        x.add(48, 0, 1);
        kit.same("101 one below the other", x.process(), -1 - 100);
        StepCode y = new StepCode();
        y.add(48, 0, 0);
        for (int i = 0; i < 200; i++) {
            y.add(48, 0, 1);
        }
        kit.same("the first one above 100", y.process(), -1 - 100);
        lists(y);
    }

    /** Statements as deep as they may be. */
    private static void lists(StepCode y) {
        y.add(48, 0, 0);
        for (int i = 0; i < 49; i++) {
            y.add(41, 0, 1);
            y.add(48, 0, 1);
        }
        kit.same("49 loops", y.process(), 0);
        kit.same("49 loops stop", y.resume(0, 10000), StepCode.STOPPED);
        kit.same("49 loops' steps", y.about(0, 5), 10000);
    }

    private static void manyProcesses() {
        StepCode x = new StepCode();
        for (int i = 0; i < 64; i++) {
            x.add(48, 0, 0);
            kit.same("process " + i, x.process(), i);
        }
        kit.same("processes", x.processes(), 64);
        x.add(99, 0, 0);
        kit.fails("one process more, also if it is none", Kit.STATE, () -> x.process());
        kit.fails("and nothing at all", Kit.STATE, () -> x.process());
        kit.same("its nodes are still there", x.add(48, 0, 1), 1);
        kit.same("processes", x.processes(), 64);
        kit.same("the last one stops", x.resume(63, 3), StepCode.STOPPED);
    }

    /** Beyond what an object's 512 calls can come to, but nothing may break there either. */
    private static void manyNodes() {
        StepCode x = new StepCode();
        for (int p = 0; p < 5; p++) {
            for (int i = 0; i < 3999; i++) {
                x.add(45, 0, 0);
            }
            kit.same("the last node", x.add(48, 0, 3999), 3999);
            kit.fails("one node more, wrong", Kit.ARGUMENT, () -> x.add(48, 0, 2));
            kit.fails("one node more", Kit.STATE, () -> x.add(48, 0, 1));
            kit.same("process of 4000 nodes", x.process(), p);
        }
        kit.same("none has 20000 nodes", x.process(), -1);
        x.add(48, 0, 0);
        kit.fails("more than 20000 nodes", Kit.STATE, () -> x.process());
        kit.same("the last process stops", x.resume(4, 10000), StepCode.STOPPED);
    }
}
