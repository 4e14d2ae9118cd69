/** The document from its first line on, where neither FaceTest nor an Edges...Test quotes it. */
public final class WholeDocumentTest {
    private static Kit kit;

    public static void main(String[] args) {
        kit = new Kit("WholeDocumentTest");
        lookedOverAndKept();
        waitsOrEnds();
        readsAndDrives();
        laterCalls();
        nodes();
        notation();
        operations();
        processNumbers();
        kit.end();
    }

    private static void lookedOverAndKept() {
        kit.says("What it is", "trees of statements are looked over and kept");
        StepCode x = new StepCode();
        kit.same("a wrong one", Kit.make(x, Kit.skip(), Kit.exit(Kit.nothing()), Kit.pause()), -3);
        kit.same("is not kept", x.processes(), 0);
        kit.same("a right one", Kit.make(x, Kit.report(Kit.num(7)), Kit.pause()), 0);
        kit.same("another one", Kit.make(x, Kit.report(Kit.num(8)), Kit.pause()), 1);
        kit.same("a wrong one", Kit.make(x, Kit.report(Kit.nothing())), -2);
        kit.same("the others are kept", x.processes(), 2);
        for (int p : new int[] {0, 1, 1, 0}) {
            kit.same("process " + p, x.resume(p, 9), StepCode.WAITS);
            kit.same("process " + p, Kit.reports(x), String.valueOf(7 + p));
        }
    }

    private static void waitsOrEnds() {
        kit.says("What it is", "each process is resumed, step by step, until it waits, makes too many steps, or does "
                + "what may not be done; what it assigns to signals and reports is told.");
        StepCode x = new StepCode();
        x.signal(0, 0, 0);
        Kit.make(x, Kit.assign(0, Kit.sig(0), Kit.wave(Kit.logic('1'))), Kit.report(Kit.num(5)), Kit.pause());
        Kit.make(x, Kit.report(Kit.num(6)));
        Kit.Tree quotient = Kit.two(16, Kit.num(1), Kit.num(0));
        Kit.make(x, Kit.assign(1, Kit.sig(0), Kit.wave(Kit.logic('0'), 3)), Kit.report(quotient));
        kit.same("it waits", x.resume(0, 4), StepCode.WAITS);
        kit.same("two acts", x.acts(), 2);
        kit.same("it assigns", x.act(0, 0), 0);
        kit.same("ONE", x.value(0, 0, 0), 3);
        kit.same("it reports", x.act(1, 1), 5);
        kit.same("only told", x.get(0, 0), 0);
        kit.same("too many steps", x.resume(1, 7), StepCode.STOPPED);
        kit.same("7 steps", x.about(1, 5), 7);
        kit.same("reports until then", Kit.reports(x), "6 6 6");
        kit.same("what may not be done", x.resume(2, 100), StepCode.FAULTED);
        kit.same("by 0", x.about(2, 1), 10);
        kit.same("where", x.about(2, 2), quotient.number);
        kit.same("one act", x.acts(), 1);
        kit.same("ZERO", x.value(0, 0, 0), 2);
        kit.same("later", x.delay(0, 0), 3);
    }

    /** A clock, a counter that it drives, and a process that reads the counter; some 480 calls, so below 512. */
    private static void readsAndDrives() {
        kit.says("What it is", "Code of processes that read and drive signals");
        StepCode x = new StepCode();
        int clock = x.signal(0, 0, 0);
        int row = x.signal(1, 3, 0);
        Kit.make(x, Kit.assign(0, Kit.sig(clock), Kit.wave(Kit.logic('0')), Kit.wave(Kit.logic('H'), 5)),
                Kit.pause(Kit.list(), Kit.nothing(), Kit.time(10, Kit.num(1))));
        x.variable(2, 0, 7);
        Kit.Tree more = Kit.two(17, Kit.two(12, Kit.var(0), Kit.num(3)), Kit.num(8));
        Kit.make(x, Kit.pause(Kit.list(Kit.sig(clock)), Kit.t(84, 8, Kit.sig(clock)), Kit.nothing()),
                Kit.let(Kit.var(0), more),
                Kit.assign(1, Kit.sig(row), Kit.wave(Kit.t(84, 11, Kit.var(0), Kit.num(3)), 1)));
        Kit.make(x, Kit.pause(Kit.list(Kit.sig(row)), Kit.nothing(), Kit.nothing()),
                Kit.report(Kit.t(84, 10, Kit.sig(row))));
        Timekeeper keeper = new Timekeeper(x, 2, 3);
        keeper.runUntil(47);
        kit.same("what is reported and when", keeper.heard(), "6: 3, 16: 6, 26: 1, 36: 4, 46: 7");
        kit.same("what the signal is", x.get(row, 0) + " " + x.get(row, 1) + " " + x.get(row, 2), "3 3 3");
        kit.same("the variable", x.variableOf(1, 0, 0), 7);
        kit.same("the clock's steps", x.about(0, 5), 5 * 3);
    }

    /** Free are the answers; that the machine itself throws is ruled out even so. */
    private static void laterCalls() {
        kit.says("What it is", "what later calls answer is free.");
        StepCode x = new StepCode();
        Kit.make(x, Kit.pause());
        for (int i = 0; i < 600; i++) {
            kit.same("resumption " + i, x.resume(0, 10000), StepCode.WAITS);
        }
        kit.fails("an act", Kit.INDEX, () -> x.act(0, 0));
        kit.fails("steps", Kit.ARGUMENT, () -> x.resume(0, 0));
    }

    private static void nodes() {
        kit.says("Terms", "TREES are made of nodes, numbered from 0 on, from their leaves on");
        StepCode x = new StepCode();
        x.variable(2, 0, 9);
        Kit.Tree set = Kit.let(Kit.var(0), Kit.two(12, Kit.num(4), Kit.one(1, Kit.num(1))));
        Kit.Tree body = Kit.list(set, Kit.pause());
        kit.same("the last is the LIST", body.plant(x), 10);
        kit.same("variable", set.kids.get(0).number, 0);
        kit.same("4", set.kids.get(1).kids.get(0).number, 1);
        kit.same("1", set.kids.get(1).kids.get(1).kids.get(0).number, 2);
        kit.same("minus", set.kids.get(1).kids.get(1).number, 3);
        kit.same("sum", set.kids.get(1).number, 4);
        kit.same("SET", set.number, 5);
        kit.same("it is a process", x.process(), 0);
        kit.same("it waits", x.resume(0, 9), StepCode.WAITS);
        kit.same("3", x.variableOf(0, 0, 0), 3);
        kit.same("the next is 0 again", x.add(45, 0, 0), 0);
    }

    private static void notation() {
        kit.says("Terms, KINDS", "[x] x or nothing, {x} any number of x, one at least: {x}+):");
        for (int many = 0; many <= 5; many++) {
            Kit.Tree choose = Kit.choose(Kit.num(0), Kit.list());
            Kit.Tree cases = Kit.cases(Kit.num(0));
            Kit.Tree assign = Kit.assign(0, Kit.sig(0));
            for (int i = 0; i < many; i++) {
                choose.kids.add(Kit.num(0));
                choose.kids.add(Kit.list(Kit.skip()));
                cases.kids.add(Kit.choice(Kit.list(Kit.num(i))));
                assign.kids.add(Kit.wave(Kit.logic('1'), i));
            }
            kit.same("IF with " + many + " more", isRight(choose), "right");
            kit.same("CASE of " + many, isRight(cases), many > 0 ? "right" : "wrong");
            kit.same("ASSIGN of " + many, isRight(assign), many > 0 ? "right" : "wrong");
            choose.kids.add(Kit.list(Kit.skip()));
            kit.same("IF with " + many + " more and the other statements", isRight(choose), "right");
            choose.kids.add(Kit.list(Kit.skip()));
            kit.same("IF with the other statements twice", isRight(choose), "wrong");
            choose.kids.remove(choose.kids.size() - 1);
            choose.kids.set(choose.kids.size() - 1, Kit.nothing());
            kit.same("nothing is no node of NOTHING", isRight(choose), "wrong");
        }
    }

    private static String isRight(Kit.Tree statement) {
        StepCode x = new StepCode();
        x.signal(0, 0, 0);
        int answer = Kit.make(x, statement);
        return answer == 0 ? "right" : answer == -1 - statement.number ? "wrong" : "answered " + answer;
    }

    private static void operations() {
        kit.says("Terms, KINDS", "21 (0 and, 1 or, 2 and turned, 3 or turned, 4 other, 5 other turned, 6 the same, 7 "
                + "not the same, 8 less, 9 not more, 10 more, 11 not less, 12 sum, 13 difference, 14 joined, 15 "
                + "product, 16 quotient, 17 modulus, 18 remainder, 19 shifted to the left, 20 to the right; two "
                + "expressions).");
        String[][] pairs = {{"-7", "2"}, {"'0'", "'1'"}, {"[0011]", "[1010]"}, {"[0011]", "2"}};
        // What each makes of these pairs; none is that their classes do not go together.
        String[] all = {
            "1 '0' [0010] none", "1 '1' [1011] none", "0 '1' [1101] none", "0 '0' [0100] none", "0 '1' [1001] none",
            "1 '0' [0110] none", "0 0 0 none", "1 1 1 none", "1 none 1 none", "1 none 1 none", "0 none 0 none",
            "0 none 0 none", "-5 none [1101] [0101]", "-9 none [1001] [0001]", "none [01] [00111010] none",
            "-14 none none none", "-3 none none none", "1 none none none", "-1 none none none",
            "none none none [1100]", "none none none [0000]"};
        for (int which = 0; which <= 20; which++) {
            String[] due = all[which].split(" ");
            for (int i = 0; i < pairs.length; i++) {
                Kit.Tree tree = Kit.two(which, Tried.of(pairs[i][0]), Tried.of(pairs[i][1]));
                kit.same("21, " + which + " of " + pairs[i][0] + " and " + pairs[i][1], Tried.found(tree),
                        due[i].equals("none") ? "fault 3" : due[i]);
            }
        }
    }

    private static void processNumbers() {
        kit.says("Promise 5", "Its number;");
        StepCode x = new StepCode();
        for (int p = 0; p < 64; p++) {
            kit.same("process", Kit.make(x), p);
            kit.same("there are", x.processes(), p + 1);
        }
        kit.fails("one more", Kit.STATE, () -> x.process());
    }
}
