/** Statements, steps and faults of a resumption: promises 12 and 14. */
public final class StatementsTest {
    private static Kit kit;

    public static void main(String[] args) {
        kit = new Kit("StatementsTest");
        wrongCalls();
        bodySteps();
        stepsOfStatements();
        stops();
        ifs();
        cases();
        caseFaults();
        forUp();
        forDown();
        forEdges();
        forFaults();
        whiles();
        exitsAndNexts();
        classesOfTruths();
        sets();
        setFaults();
        asserts();
        goesOnBehindWaits();
        ends();
        kit.end();
    }

    private static StepCode ground() {
        StepCode x = new StepCode();
        x.signal(0, 0, 0);
        x.variable(2, -5, 20);
        x.variable(2, -Kit.BIG, Kit.BIG);
        x.variable(1, 4, 0);
        x.variable(0, 0, 0);
        return x;
    }

    /** What a process tells, becomes and how many steps it makes, when it is resumed once. */
    private static String done(int steps, Kit.Tree... statements) {
        StepCode x = ground();
        int made = Kit.make(x, statements);
        if (made != 0) {
            return "WRONG " + made;
        }
        int state = x.resume(0, steps);
        kit.same("what resume answers", state, x.about(0, 0));
        return Kit.reports(x) + "; " + Kit.fate(x, 0) + "; " + x.about(0, 5);
    }

    private static Kit.Tree byZero() {
        return Kit.two(16, Kit.num(1), Kit.num(0));
    }

    private static void wrongCalls() {
        StepCode x = ground();
        Kit.make(x, Kit.skip(), Kit.pause());
        kit.same("new", Kit.fate(x, 0), "new");
        kit.same("new, fault", x.about(0, 1), 0);
        kit.same("new, node", x.about(0, 2), -1);
        kit.same("new, steps", x.about(0, 5), 0);
        for (int p : new int[] {-1, 1, 64, Integer.MIN_VALUE}) {
            kit.fails("resume " + p, Kit.INDEX, () -> x.resume(p, 0));
            kit.fails("about " + p, Kit.INDEX, () -> x.about(p, 77));
        }
        for (int steps : new int[] {0, -1, 10001, Kit.BIG, Integer.MIN_VALUE}) {
            kit.fails("resume with " + steps, Kit.ARGUMENT, () -> x.resume(0, steps));
        }
        for (int what : new int[] {-1, 6, Kit.BIG}) {
            kit.fails("about " + what, Kit.ARGUMENT, () -> x.about(0, what));
        }
        kit.same("still new", Kit.fate(x, 0), "new");
        kit.same("10000 steps", x.resume(0, 10000), StepCode.WAITS);
        kit.same("3 steps made", x.about(0, 5), 3);
        kit.fails("0 steps", Kit.ARGUMENT, () -> x.resume(0, 0));
        kit.same("it still waits", x.about(0, 0), StepCode.WAITS);
        kit.same("one step", x.resume(0, 1), StepCode.STOPPED);
        kit.fails("wrong steps come before a state", Kit.ARGUMENT, () -> x.resume(0, 0));
        kit.fails("it has stopped", Kit.STATE, () -> x.resume(0, 1));
    }

    private static void bodySteps() {
        kit.same("an empty body", done(7), "; stopped; 7");
        kit.same("NULL", done(5, Kit.skip()), "; stopped; 5");
        kit.same("WAIT with two steps", done(2, Kit.pause()), "; waits; 2");
        kit.same("WAIT with one step", done(1, Kit.pause()), "; stopped; 1");
        kit.same("round and round", done(5, Kit.report(Kit.num(7))), "7 7; stopped; 5");
        StepCode x = ground();
        Kit.make(x, Kit.pause(), Kit.skip(), Kit.pause());
        int[] due = {2, 4, 6, 8, 10};
        for (int steps : due) {
            kit.same("resumed", x.resume(0, 2), StepCode.WAITS);
            kit.same("steps in all", x.about(0, 5), steps);
        }
    }

    private static void stepsOfStatements() {
        kit.same("NULL, SET, REPORT, ASSERT", done(99, Kit.skip(), Kit.let(Kit.var(0), Kit.num(1)),
                Kit.report(Kit.num(1)), Kit.check(Kit.num(1), Kit.num(1)), Kit.pause()), "1; waits; 6");
        kit.same("ASSIGN", done(99, Kit.assign(0, Kit.sig(0), Kit.wave(Kit.logic('0'))), Kit.pause()), "; waits; 3");
        kit.same("IF", done(99, Kit.choose(Kit.num(1), Kit.list(Kit.skip())), Kit.pause()), "; waits; 4");
        kit.same("IF not", done(99, Kit.choose(Kit.num(0), Kit.list(Kit.skip())), Kit.pause()), "; waits; 3");
        kit.same("CASE", done(99, Kit.cases(Kit.num(1), Kit.choice(Kit.list(Kit.others()), Kit.skip())),
                Kit.pause()), "; waits; 4");
        kit.same("FOR of three", done(99, Kit.up(Kit.var(0), Kit.num(1), Kit.num(3)), Kit.pause()), "; waits; 7");
        kit.same("FOR of none", done(99, Kit.up(Kit.var(0), Kit.num(3), Kit.num(1)), Kit.pause()), "; waits; 4");
        kit.same("WHILE of none", done(99, Kit.loopWhile(Kit.num(0)), Kit.pause()), "; waits; 4");
        kit.same("WHILE of two", done(99, Kit.let(Kit.var(0), Kit.num(2)),
                Kit.loopWhile(Kit.var(0), Kit.let(Kit.var(0), Kit.two(13, Kit.var(0), Kit.num(1)))), Kit.pause()),
                "; waits; 9");
        kit.same("LOOP with EXIT", done(99, Kit.loop(Kit.exit(Kit.nothing())), Kit.pause()), "; waits; 5");
        kit.same("LOOP of nothing", done(50, Kit.loop(), Kit.pause()), "; stopped; 50");
        kit.same("FOR with NEXT", done(99, Kit.up(Kit.var(0), Kit.num(1), Kit.num(2), Kit.next(Kit.nothing()),
                Kit.report(Kit.num(1))), Kit.pause()), "; waits; 8");
    }

    /** With each number of steps too few, a process stops just before the step that would be one more. */
    private static void stops() {
        for (int steps = 1; steps <= 12; steps++) {
            StepCode x = ground();
            Kit.make(x, Kit.up(Kit.var(0), Kit.num(1), Kit.num(2), Kit.report(Kit.var(0))),
                    Kit.loopWhile(Kit.num(1), Kit.let(Kit.var(1), Kit.num(7)), Kit.exit(Kit.num(1))), Kit.pause());
            int state = x.resume(0, steps);
            String all = "1 2";
            int told = steps < 4 ? 0 : steps < 6 ? 1 : 2;
            kit.same("state with " + steps, state, steps < 12 ? StepCode.STOPPED : StepCode.WAITS);
            kit.same("steps with " + steps, x.about(0, 5), steps);
            kit.same("told with " + steps, Kit.reports(x), all.substring(0, Math.max(0, 2 * told - 1)));
            kit.same("counter with " + steps, x.variableOf(0, 0, 0), steps < 3 ? -5 : steps < 5 ? 1 : 2);
            kit.same("set with " + steps, x.variableOf(0, 1, 0), steps < 10 ? -Kit.BIG : 7);
        }
    }

    private static void ifs() {
        for (int a = 0; a <= 1; a++) {
            for (int b = 0; b <= 1; b++) {
                String due = a == 1 ? "1" : b == 1 ? "2" : "3";
                kit.same("IF " + a + b, done(9, Kit.choose(Kit.num(-5 * a), Kit.list(Kit.report(Kit.num(1))),
                        Kit.num(b), Kit.list(Kit.report(Kit.num(2))), Kit.list(Kit.report(Kit.num(3)))),
                        Kit.pause()), due + "; waits; 4");
            }
        }
        kit.same("without an end", done(9, Kit.choose(Kit.num(0), Kit.list(Kit.report(Kit.num(1))), Kit.num(0),
                Kit.list(Kit.report(Kit.num(2)))), Kit.pause()), "; waits; 3");
        kit.same("the second one is not looked at", done(9, Kit.choose(Kit.num(1), Kit.list(), byZero(),
                Kit.list()), Kit.pause()), "; waits; 3");
        kit.same("the second one is looked at", done(9, Kit.choose(Kit.num(0), Kit.list(), byZero(),
                Kit.list()), Kit.pause()), "; 10 at 4; 2");
    }

    private static void cases() {
        String[] due = {"1", "1", "2", "3", "4"};
        for (int n = 0; n <= 4; n++) {
            kit.same("CASE " + n, done(9, Kit.cases(Kit.num(n),
                    Kit.choice(Kit.list(Kit.num(0), Kit.num(1)), Kit.report(Kit.num(1))),
                    Kit.choice(Kit.list(Kit.num(2), Kit.num(1)), Kit.report(Kit.num(2))),
                    Kit.choice(Kit.list(Kit.num(3)), Kit.report(Kit.num(3))),
                    Kit.choice(Kit.list(Kit.num(9), Kit.others()), Kit.report(Kit.num(4)))), Kit.pause()),
                    due[n] + "; waits; 4");
        }
        kit.same("OTHERS first", done(9, Kit.cases(Kit.num(3),
                Kit.choice(Kit.list(Kit.others(), Kit.logic('0')), Kit.report(Kit.num(1))),
                Kit.choice(Kit.list(Kit.num(3)), Kit.report(Kit.num(2)))), Kit.pause()), "1; waits; 4");
        kit.same("of LOGIC", done(9, Kit.cases(Kit.logic('H'),
                Kit.choice(Kit.list(Kit.logic('1')), Kit.report(Kit.num(1))),
                Kit.choice(Kit.list(Kit.logic('H')), Kit.report(Kit.num(2)))), Kit.pause()), "2; waits; 4");
        kit.same("of a row", done(9, Kit.cases(Kit.row("0L-"),
                Kit.choice(Kit.list(Kit.row("00-"), Kit.row("0L-")), Kit.report(Kit.num(1)))), Kit.pause()),
                "1; waits; 4");
        kit.same("an empty choice", done(9, Kit.cases(Kit.num(1), Kit.choice(Kit.list(Kit.num(1)))), Kit.pause()),
                "; waits; 3");
    }

    private static void caseFaults() {
        kit.same("nothing that it has", done(9, Kit.cases(Kit.num(1), Kit.choice(Kit.list(Kit.num(2))))),
                "; 15 at 5; 2");
        kit.same("another class", done(9, Kit.cases(Kit.num(1), Kit.choice(Kit.list(Kit.logic('1'))))),
                "; 3 at 4; 2");
        kit.same("another length", done(9, Kit.cases(Kit.row("1"), Kit.choice(Kit.list(Kit.row("11"))))),
                "; 4 at 7; 2");
        kit.same("another class, before OTHERS", done(9, Kit.cases(Kit.num(1),
                Kit.choice(Kit.list(Kit.logic('1'), Kit.others())))), "; 3 at 5; 2");
        kit.same("another class in the second choice", done(9, Kit.cases(Kit.num(1),
                Kit.choice(Kit.list(Kit.num(2))), Kit.choice(Kit.list(Kit.num(3), Kit.row("1"))))), "; 3 at 10; 2");
        kit.same("another class behind what fits", done(9, Kit.cases(Kit.num(1),
                Kit.choice(Kit.list(Kit.num(1), Kit.logic('1'))), Kit.choice(Kit.list(Kit.row("1")))), Kit.pause()),
                "; waits; 3");
        kit.same("its expression", done(9, Kit.cases(byZero(), Kit.choice(Kit.list(Kit.others())))),
                "; 10 at 2; 2");
    }

    private static void forUp() {
        kit.same("each in turn", done(99, Kit.up(Kit.var(0), Kit.num(-1), Kit.num(2), Kit.report(Kit.var(0))),
                Kit.pause()), "-1 0 1 2; waits; 12");
        kit.same("whatever the variable became", done(99, Kit.up(Kit.var(0), Kit.num(1), Kit.num(3),
                Kit.report(Kit.var(0)), Kit.let(Kit.var(0), Kit.num(20))), Kit.report(Kit.var(0)), Kit.pause()),
                "1 2 3 20; waits; 14");
        kit.same("found once", done(99, Kit.let(Kit.var(1), Kit.num(2)), Kit.up(Kit.var(0), Kit.var(1),
                Kit.two(12, Kit.var(1), Kit.num(1)), Kit.report(Kit.var(0)), Kit.let(Kit.var(1), Kit.num(9))),
                Kit.pause()), "2 3; waits; 11");
        kit.same("its variable in its own numbers", done(99, Kit.let(Kit.var(0), Kit.num(2)), Kit.up(Kit.var(0),
                Kit.var(0), Kit.two(12, Kit.var(0), Kit.num(2)), Kit.report(Kit.var(0))), Kit.pause()),
                "2 3 4; waits; 11");
        kit.same("none leaves the variable", done(99, Kit.let(Kit.var(0), Kit.num(9)), Kit.up(Kit.var(0),
                Kit.num(2), Kit.num(1), Kit.report(Kit.num(0))), Kit.report(Kit.var(0)), Kit.pause()),
                "9; waits; 6");
        kit.same("one in another", done(99, Kit.up(Kit.var(0), Kit.num(1), Kit.num(2), Kit.up(Kit.var(1),
                Kit.var(0), Kit.num(2), Kit.report(Kit.two(12, Kit.two(15, Kit.var(0), Kit.num(10)),
                Kit.var(1))))), Kit.pause()), "11 12 22; waits; 16");
    }

    private static void forDown() {
        kit.same("each in turn", done(99, Kit.down(Kit.var(0), Kit.num(2), Kit.num(-1), Kit.report(Kit.var(0))),
                Kit.pause()), "2 1 0 -1; waits; 12");
        kit.same("none", done(99, Kit.down(Kit.var(0), Kit.num(1), Kit.num(2), Kit.report(Kit.var(0))),
                Kit.pause()), "; waits; 4");
        kit.same("one", done(99, Kit.down(Kit.var(0), Kit.num(2), Kit.num(2), Kit.report(Kit.var(0))),
                Kit.pause()), "2; waits; 6");
    }

    private static void forEdges() {
        kit.same("up to the greatest", done(99, Kit.up(Kit.var(1), Kit.num(Kit.BIG - 1), Kit.num(Kit.BIG),
                Kit.report(Kit.var(1))), Kit.pause()), "2147483646 2147483647; waits; 8");
        kit.same("down to the least", done(99, Kit.down(Kit.var(1), Kit.num(-Kit.BIG + 1), Kit.num(-Kit.BIG),
                Kit.report(Kit.var(1))), Kit.pause()), "-2147483646 -2147483647; waits; 8");
        kit.same("from the least to the greatest", done(10000, Kit.up(Kit.var(1), Kit.num(-Kit.BIG),
                Kit.num(Kit.BIG)), Kit.pause()), "; stopped; 10000");
    }

    private static void forFaults() {
        kit.same("outside at once", done(99, Kit.up(Kit.var(0), Kit.num(-6), Kit.num(3))), "; 8 at 4; 3");
        kit.same("outside later", done(99, Kit.up(Kit.var(0), Kit.num(19), Kit.num(30), Kit.report(Kit.var(0)))),
                "19 20; 8 at 6; 7");
        kit.same("outside, but none", done(99, Kit.up(Kit.var(0), Kit.num(50), Kit.num(40)), Kit.pause()),
                "; waits; 4");
        kit.same("first is no NUMBER", done(99, Kit.up(Kit.var(0), Kit.logic('0'), Kit.num(3))), "; 3 at 4; 2");
        kit.same("second is no NUMBER", done(99, Kit.down(Kit.var(0), Kit.num(3), Kit.row("0"))), "; 3 at 5; 2");
        kit.same("first has a fault", done(99, Kit.up(Kit.var(0), byZero(), Kit.logic('0'))), "; 10 at 3; 2");
        kit.same("second has a fault", done(99, Kit.up(Kit.var(0), Kit.num(1), byZero())), "; 10 at 4; 2");
    }

    private static void whiles() {
        kit.same("looks each time", done(99, Kit.let(Kit.var(0), Kit.num(3)), Kit.loopWhile(Kit.var(0),
                Kit.report(Kit.var(0)), Kit.let(Kit.var(0), Kit.two(13, Kit.var(0), Kit.num(1)))), Kit.pause()),
                "3 2 1; waits; 14");
        kit.same("no NUMBER", done(99, Kit.loopWhile(Kit.logic('1'))), "; 3 at 2; 3");
        kit.same("a fault", done(99, Kit.loopWhile(byZero())), "; 10 at 2; 3");
    }

    private static void exitsAndNexts() {
        kit.same("EXIT when", done(99, Kit.let(Kit.var(0), Kit.num(0)), Kit.loop(Kit.let(Kit.var(0),
                Kit.two(12, Kit.var(0), Kit.num(1))), Kit.exit(Kit.two(6, Kit.var(0), Kit.num(3))),
                Kit.report(Kit.var(0))), Kit.pause()), "1 2; waits; 15");
        kit.same("the innermost", done(99, Kit.up(Kit.var(0), Kit.num(1), Kit.num(2), Kit.loop(
                Kit.choose(Kit.num(1), Kit.list(Kit.exit(Kit.nothing()))), Kit.report(Kit.num(9))),
                Kit.report(Kit.var(0))), Kit.pause()), "1 2; waits; 16");
        kit.same("NEXT goes to the look", done(99, Kit.up(Kit.var(0), Kit.num(1), Kit.num(4),
                Kit.next(Kit.two(6, Kit.two(17, Kit.var(0), Kit.num(2)), Kit.num(0))), Kit.report(Kit.var(0))),
                Kit.pause()), "1 3; waits; 14");
        kit.same("NEXT in a WHILE", done(99, Kit.let(Kit.var(0), Kit.num(3)), Kit.loopWhile(Kit.two(10, Kit.var(0),
                Kit.num(0)), Kit.let(Kit.var(0), Kit.two(13, Kit.var(0), Kit.num(1))), Kit.next(Kit.num(1)),
                Kit.report(Kit.num(0))), Kit.pause()), "; waits; 14");
        kit.same("NEXT of the inner one", done(99, Kit.up(Kit.var(0), Kit.num(1), Kit.num(2), Kit.up(Kit.var(1),
                Kit.num(1), Kit.num(2), Kit.next(Kit.nothing())), Kit.report(Kit.var(0))), Kit.pause()),
                "1 2; waits; 20");
        kit.same("LOOP and NEXT", done(10, Kit.loop(Kit.next(Kit.nothing()), Kit.report(Kit.num(1)))),
                "; stopped; 10");
        kit.same("a loop again begins anew", done(99, Kit.up(Kit.var(1), Kit.num(1), Kit.num(2), Kit.up(Kit.var(0),
                Kit.num(1), Kit.num(9), Kit.report(Kit.var(0)), Kit.exit(Kit.two(6, Kit.var(0), Kit.num(2))))),
                Kit.pause()), "1 2 1 2; waits; 20");
    }

    private static void classesOfTruths() {
        for (String row : new String[] {"1", "11"}) {
            kit.same("IF", done(9, Kit.choose(Kit.row(row), Kit.list())), "; 3 at " + (row.length() + 2) + "; 2");
            kit.same("EXIT", done(9, Kit.loop(Kit.exit(Kit.row(row)))), "; 3 at " + (row.length() + 1) + "; 4");
        }
        kit.same("IF, the second one", done(9, Kit.choose(Kit.num(0), Kit.list(), Kit.logic('1'), Kit.list())),
                "; 3 at 4; 2");
        kit.same("NEXT", done(9, Kit.loop(Kit.next(Kit.logic('1')))), "; 3 at 1; 4");
        kit.same("NEXT with a fault", done(9, Kit.loop(Kit.next(byZero()))), "; 10 at 2; 4");
        kit.same("REPORT", done(9, Kit.report(Kit.logic('1'))), "; 3 at 1; 2");
        kit.same("ASSERT", done(9, Kit.check(Kit.logic('1'), Kit.num(1))), "; 3 at 2; 2");
        kit.same("ASSERT, what it tells", done(9, Kit.check(Kit.num(0), Kit.row("1"))), "; 3 at 3; 2");
    }

    private static void sets() {
        StepCode x = ground();
        Kit.make(x, Kit.let(Kit.var(0), Kit.num(20)), Kit.let(Kit.var(3), Kit.logic('W')),
                Kit.let(Kit.var(2), Kit.row("01XZ")), Kit.pause(),
                Kit.let(Kit.elem(Kit.var(2), Kit.two(13, Kit.var(0), Kit.num(17))), Kit.logic('H')),
                Kit.let(Kit.part(Kit.var(2), 1, 2), Kit.row("L-")), Kit.pause(),
                Kit.let(Kit.var(2), Kit.two(14, Kit.part(Kit.var(2), 0, 2), Kit.part(Kit.var(2), 2, 2))),
                Kit.let(Kit.var(0), Kit.two(13, Kit.var(0), Kit.num(25))), Kit.pause(),
                Kit.let(Kit.part(Kit.var(2), 0, 3), Kit.part(Kit.var(2), 1, 3)), Kit.pause());
        x.resume(0, 9);
        kit.same("set", x.variableOf(0, 0, 0) + " " + x.variableOf(0, 3, 0) + " " + Kit.rowOf(x, 0, 2, 4),
                "20 5 01XZ");
        x.resume(0, 9);
        kit.same("an element and a part", Kit.rowOf(x, 0, 2, 4), "HL-Z");
        x.resume(0, 9);
        kit.same("turned round", x.variableOf(0, 0, 0) + " " + Kit.rowOf(x, 0, 2, 4), "-5 -ZHL");
        x.resume(0, 9);
        kit.same("a part of itself", Kit.rowOf(x, 0, 2, 4), "--ZH");
        kit.same("it has no acts", x.acts(), 0);
    }

    private static void setFaults() {
        kit.same("NUMBER above", done(9, Kit.let(Kit.var(0), Kit.num(21))), "; 8 at 2; 2");
        kit.same("NUMBER below", done(9, Kit.let(Kit.var(0), Kit.num(-6))), "; 8 at 2; 2");
        kit.same("NUMBER := LOGIC", done(9, Kit.let(Kit.var(0), Kit.logic('0'))), "; 3 at 2; 2");
        kit.same("LOGIC := NUMBER", done(9, Kit.let(Kit.var(3), Kit.num(0))), "; 3 at 2; 2");
        kit.same("LOGIC := row of 1", done(9, Kit.let(Kit.var(3), Kit.row("0"))), "; 3 at 3; 2");
        kit.same("row := LOGIC", done(9, Kit.let(Kit.var(2), Kit.logic('0'))), "; 3 at 2; 2");
        kit.same("row := shorter", done(9, Kit.let(Kit.var(2), Kit.row("010"))), "; 4 at 5; 2");
        kit.same("row := longer", done(9, Kit.let(Kit.var(2), Kit.row("01010"))), "; 4 at 7; 2");
        kit.same("element := row of 1", done(9, Kit.let(Kit.elem(Kit.var(2), Kit.num(0)), Kit.row("0"))),
                "; 3 at 5; 2");
        kit.same("part of 1 := LOGIC", done(9, Kit.let(Kit.part(Kit.var(2), 0, 1), Kit.logic('0'))), "; 3 at 5; 2");
        kit.same("part := all", done(9, Kit.let(Kit.part(Kit.var(2), 0, 2), Kit.row("0101"))), "; 4 at 9; 2");
        kit.same("no element 4", done(9, Kit.let(Kit.elem(Kit.var(2), Kit.num(4)), byZero())), "; 6 at 2; 2");
        kit.same("no element -1", done(9, Kit.let(Kit.elem(Kit.var(2), Kit.num(-1)), byZero())), "; 6 at 2; 2");
        kit.same("no NUMBER for an element", done(9, Kit.let(Kit.elem(Kit.var(2), Kit.logic('0')), byZero())),
                "; 3 at 2; 2");
        kit.same("the element has a fault", done(9, Kit.let(Kit.elem(Kit.var(2), byZero()), Kit.num(1))),
                "; 10 at 3; 2");
        kit.same("the value has a fault", done(9, Kit.let(Kit.var(0), byZero())), "; 10 at 3; 2");
        StepCode x = ground();
        Kit.make(x, Kit.let(Kit.var(2), Kit.row("01")));
        x.resume(0, 5);
        kit.same("a fault changes nothing", Kit.rowOf(x, 0, 2, 4), "UUUU");
    }

    private static void asserts() {
        kit.same("true", done(9, Kit.check(Kit.num(-1), byZero()), Kit.pause()), "; waits; 3");
        kit.same("false", done(9, Kit.check(Kit.num(0), Kit.num(-77)), Kit.pause()), "-77; waits; 3");
        kit.same("false, with a fault", done(9, Kit.check(Kit.num(0), byZero())), "; 10 at 3; 2");
    }

    private static void goesOnBehindWaits() {
        StepCode x = ground();
        Kit.make(x, Kit.up(Kit.var(0), Kit.num(1), Kit.num(2), Kit.choose(Kit.num(1), Kit.list(Kit.loop(
                Kit.cases(Kit.num(4), Kit.choice(Kit.list(Kit.others()), Kit.report(Kit.var(0)), Kit.pause())),
                Kit.exit(Kit.nothing()))))), Kit.report(Kit.num(9)));
        String[] due = {"1", "2", "9 1", "2", "9 1"};
        int[] steps = {9, 8, 12, 8, 12};
        int all = 0;
        for (int i = 0; i < due.length; i++) {
            kit.same("it waits", x.resume(0, 99), StepCode.WAITS);
            all += steps[i];
            kit.same("resumption " + i, Kit.reports(x), due[i]);
            kit.same("steps " + i, x.about(0, 5), all);
        }
        StepCode y = ground();
        Kit.make(y, Kit.up(Kit.var(0), Kit.num(1), Kit.num(3), Kit.report(Kit.var(0)), Kit.pause()));
        y.resume(0, 99);
        y.set(0, 0, 0, 15);
        y.resume(0, 99);
        kit.same("a FOR goes on, whatever the variable became", Kit.reports(y), "2");
    }

    private static void ends() {
        StepCode x = ground();
        Kit.make(x, Kit.report(Kit.num(1)), Kit.report(byZero()));
        kit.same("faulted", x.resume(0, 9), StepCode.FAULTED);
        kit.same("what was told before", Kit.reports(x), "1");
        kit.same("fate", Kit.fate(x, 0), "10 at 4");
        kit.fails("ended for ever", Kit.STATE, () -> x.resume(0, 9));
        kit.same("acts stay", x.acts(), 1);
        kit.same("steps stay", x.about(0, 5), 3);
        kit.same("no signals", x.about(0, 3), 0);
        kit.same("no expression", x.about(0, 4), 0);
        Kit.make(x, Kit.report(Kit.num(5)));
        kit.same("another one", x.resume(1, 3), StepCode.STOPPED);
        kit.same("has its own acts", Kit.reports(x), "5");
        kit.same("no fault", x.about(1, 1), 0);
        kit.same("no node", x.about(1, 2), -1);
        kit.same("the first one is as it was", Kit.fate(x, 0), "10 at 4");
    }
}
