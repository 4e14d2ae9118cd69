/** The edges that promises 12 to 20 name, sentence by sentence: resumptions, waits and acts. */
public final class EdgesOfPromises12To20Test {
    private static final int BIG = Kit.BIG;
    private static final int BEYOND = Integer.MIN_VALUE;
    private static final int[] NO_PROCESS = {-1, 1, 64, BIG, BEYOND};
    private static Kit kit;

    public static void main(String[] args) {
        kit = new Kit("EdgesOfPromises12To20Test");
        resumed();
        wrongSteps();
        ended();
        holds();
        holdsWithAFault();
        holdsOfLastResumption();
        doesNotWait();
        about();
        aboutNotWaiting();
        aboutNothingElse();
        waits();
        until();
        acts();
        act();
        actInTurn();
        actNothingElse();
        values();
        delays();
        delaysOfReports();
        for (int promise = 12; promise <= 20; promise++) {
            kit.same("promise " + promise + " is looked at", kit.hasSaid("Promise " + promise) ? 1 : 0, 1);
        }
        kit.end();
    }

    /** Signals: LOGIC, a row of 4, NUMBERs 0 .. 9; a variable of NUMBERs 0 .. 9. */
    private static StepCode with(Kit.Tree... statements) {
        StepCode x = new StepCode();
        x.signal(0, 0, 0);
        x.signal(1, 4, 0);
        x.signal(2, 0, 9);
        x.variable(2, 0, 9);
        kit.same("it is a process", Kit.make(x, statements), 0);
        return x;
    }

    private static Kit.Tree by(Kit.Tree divisor) {
        return Kit.two(16, Kit.num(1), divisor);
    }

    private static Kit.Tree forAll() {
        return Kit.pause(Kit.list(Kit.sig(2), Kit.sig(0)), Kit.sig(2), Kit.time(7, Kit.num(3)));
    }

    /** All that is told of a process that does not wait. */
    private static void waitsForNothing(StepCode x) {
        kit.same("no signals", x.about(0, 3), 0);
        kit.same("no expression", x.about(0, 4), 0);
        kit.same("no time", x.until(0), -1);
        kit.fails("no signal 0", Kit.INDEX, () -> x.waits(0, 0));
        kit.fails("nothing holds", Kit.STATE, () -> x.holds(0));
    }

    private static void resumed() {
        kit.says("Promise 12", "A process goes on, with at most so many steps: what it is then (WAITS, STOPPED, "
                + "FAULTED). IndexOutOfBoundsException;");
        StepCode x = with(Kit.pause(), Kit.choose(Kit.sig(2), Kit.list(Kit.report(by(Kit.num(0))))));
        kit.same("it waits", x.resume(0, 2), StepCode.WAITS);
        kit.same("it waits again", x.resume(0, 3), StepCode.WAITS);
        x.put(2, false, 0, 1);
        kit.same("it faults", x.resume(0, 10000), StepCode.FAULTED);
        kit.same("it stops", with(Kit.pause()).resume(0, 1), StepCode.STOPPED);
        for (int p : NO_PROCESS) {
            kit.fails("no process " + p, Kit.INDEX, () -> x.resume(p, 1));
        }
        StepCode y = new StepCode();
        y.add(48, 0, 0);
        kit.fails("one that is being made", Kit.INDEX, () -> y.resume(0, 1));
    }

    private static void wrongSteps() {
        kit.says("Promise 12", "IllegalArgumentException when steps is not 1 .. 10000;");
        StepCode x = with(Kit.pause());
        for (int steps : new int[] {0, -1, 10001, BIG, BEYOND}) {
            kit.fails(steps + " steps", Kit.ARGUMENT, () -> x.resume(0, steps));
            kit.same("it is still new", x.about(0, 0), StepCode.NEW);
        }
        kit.same("10000 steps", x.resume(0, 10000), StepCode.WAITS);
        for (int steps : new int[] {0, -1, 10001, BIG, BEYOND}) {
            kit.fails(steps + " steps", Kit.ARGUMENT, () -> x.resume(0, steps));
            kit.same("it still waits", x.about(0, 0), StepCode.WAITS);
        }
        kit.same("1 step", x.resume(0, 1), StepCode.STOPPED);
    }

    private static void ended() {
        kit.says("Promise 12", "IllegalStateException when it has stopped or faulted.");
        StepCode x = with(Kit.skip());
        kit.same("new: it can", x.resume(0, 1), StepCode.STOPPED);
        kit.fails("stopped", Kit.STATE, () -> x.resume(0, 1));
        kit.fails("stopped, and wrong steps", Kit.ARGUMENT, () -> x.resume(0, 0));
        StepCode y = with(Kit.report(by(Kit.num(0))));
        kit.same("new: it can", y.resume(0, 10000), StepCode.FAULTED);
        kit.fails("faulted", Kit.STATE, () -> y.resume(0, 10000));
        kit.fails("faulted, and wrong steps", Kit.ARGUMENT, () -> y.resume(0, 10001));
        StepCode z = with(Kit.pause(Kit.list(), by(Kit.num(0)), Kit.nothing()));
        z.resume(0, 9);
        z.holds(0);
        kit.fails("faulted by holds", Kit.STATE, () -> z.resume(0, 9));
    }

    private static void holds() {
        kit.says("Promise 13", "Whether the expression of the WAIT at which a process waits is true now (1 "
                + "without one, otherwise 1 or 0);");
        StepCode x = with(Kit.pause(), Kit.pause(Kit.list(Kit.sig(0)), Kit.nothing(), Kit.time(1, Kit.num(1))),
                Kit.pause(Kit.list(), Kit.two(13, Kit.sig(2), Kit.var(0)), Kit.nothing()));
        x.resume(0, 9);
        kit.same("without one", x.holds(0), 1);
        x.resume(0, 9);
        kit.same("without one, for a signal", x.holds(0), 1);
        x.resume(0, 9);
        kit.same("0", x.holds(0), 0);
        x.put(2, false, 0, 9);
        kit.same("9", x.holds(0), 1);
        x.set(0, 0, 0, 9);
        kit.same("0 again", x.holds(0), 0);
        x.put(2, false, 0, 0);
        kit.same("-9", x.holds(0), 1);
        kit.same("it is no step", x.about(0, 5), 4);
        kit.same("it waits", x.about(0, 0), StepCode.WAITS);
        for (int p : NO_PROCESS) {
            kit.fails("no process " + p, Kit.INDEX, () -> x.holds(p));
        }
    }

    private static void holdsWithAFault() {
        kit.says("Promise 13", "2 when finding that has a fault (3 at the WAIT when it is no NUMBER): then the "
                + "process has faulted");
        Kit.Tree[] wrong = {Kit.logic('1'), Kit.row("1"), Kit.sig(0), Kit.sig(1)};
        for (Kit.Tree e : wrong) {
            Kit.Tree wait = Kit.pause(Kit.list(Kit.sig(0)), e, Kit.time(1, Kit.num(1)));
            StepCode x = with(wait);
            x.resume(0, 2);
            kit.same("no NUMBER", x.holds(0), 2);
            kit.same("at the WAIT", Kit.fate(x, 0), "3 at " + wait.number);
            waitsForNothing(x);
            kit.same("its steps", x.about(0, 5), 2);
        }
        Kit.Tree in = by(Kit.sig(2));
        StepCode y = with(Kit.pause(Kit.list(Kit.sig(0)), Kit.one(0, in), Kit.nothing()));
        y.resume(0, 2);
        y.put(2, false, 0, 1);
        kit.same("no fault yet", y.holds(0), 0);
        y.put(2, false, 0, 0);
        kit.same("a fault in it", y.holds(0), 2);
        kit.same("at its node", Kit.fate(y, 0), "10 at " + in.number);
        y.put(2, false, 0, 1);
        waitsForNothing(y);
    }

    private static void holdsOfLastResumption() {
        kit.says("Promise 13", "(acts() and what belongs to it stay those of the last resumption).");
        StepCode x = with(Kit.report(Kit.num(4)), Kit.pause(Kit.list(), by(Kit.num(0)), Kit.nothing()));
        Kit.make(x, Kit.report(Kit.num(5)), Kit.assign(2, Kit.sig(1), Kit.time(1, Kit.num(2)),
                Kit.wave(Kit.row("01XZ"), 3)), Kit.pause());
        x.resume(0, 9);
        x.resume(1, 9);
        kit.same("a fault", x.holds(0), 2);
        kit.same("acts", x.acts(), 2);
        kit.same("a report", x.act(0, 1), 5);
        kit.same("an ASSIGN", x.act(1, 1) * 100 + x.act(1, 3) * 10 + x.act(1, 4), 142);
        kit.same("its value", x.value(1, 0, 3) * 10 + x.value(1, 0, 0), 24);
        kit.same("its times", x.delay(1, 0) * 10 + x.delay(1, -1), 32);
    }

    private static void doesNotWait() {
        kit.says("Promise 13", "IllegalStateException when it does not wait.");
        StepCode x = with(Kit.pause(), Kit.skip());
        kit.fails("new", Kit.STATE, () -> x.holds(0));
        x.resume(0, 2);
        kit.same("it waits", x.holds(0), 1);
        x.resume(0, 1);
        kit.fails("stopped", Kit.STATE, () -> x.holds(0));
        StepCode y = with(Kit.report(by(Kit.num(0))));
        y.resume(0, 9);
        kit.fails("faulted", Kit.STATE, () -> y.holds(0));
    }

    private static void about() {
        kit.says("Promise 14", "what = 0 what it is, 1 its fault (0 for none), 2 the fault's node (NONE), 3 how "
                + "many signals it waits for, 4 whether it waits for an expression");
        Kit.Tree bad = by(Kit.num(0));
        StepCode x = with(forAll(), Kit.pause(Kit.list(), Kit.nothing(), Kit.nothing()), Kit.report(bad));
        told(x, 0, 0, -1, 0, 0, 0);
        x.resume(0, 9);
        told(x, 1, 0, -1, 2, 1, 2);
        x.resume(0, 9);
        told(x, 1, 0, -1, 0, 0, 3);
        x.resume(0, 9);
        told(x, 3, 10, bad.number, 0, 0, 4);
        StepCode y = with(forAll());
        y.resume(0, 1);
        told(y, 2, 0, -1, 0, 0, 1);
        Kit.Tree many = Kit.list();
        for (int i = 0; i < 200; i++) {
            many.kids.add(Kit.sig(i % 3));
        }
        StepCode z = with(Kit.pause(many, Kit.nothing(), Kit.nothing()));
        z.resume(0, 9);
        told(z, 1, 0, -1, 200, 0, 2);
        StepCode u = with(Kit.report(Kit.elem(Kit.sig(1), Kit.num(4))));
        u.resume(0, 9);
        told(u, 3, 6, 2, 0, 0, 2);
        for (int p : NO_PROCESS) {
            kit.fails("no process " + p, Kit.INDEX, () -> x.about(p, 0));
        }
    }

    private static void told(StepCode x, int... due) {
        for (int what = 0; what < due.length; what++) {
            kit.same("what = " + what, x.about(0, what), due[what]);
        }
    }

    private static void aboutNotWaiting() {
        kit.says("Promise 14", "(1 or 0; both 0 when it does not wait), 5 steps it made in all (up to 2147483647).");
        StepCode x = with(forAll(), Kit.skip(), Kit.skip());
        waitsForNothing(x);
        x.resume(0, 9);
        kit.same("signals", x.about(0, 3), 2);
        kit.same("an expression", x.about(0, 4), 1);
        x.resume(0, 3);
        waitsForNothing(x);
        kit.same("steps", x.about(0, 5), 5);
        StepCode y = with(Kit.up(Kit.var(0), Kit.num(1), Kit.num(9)), Kit.pause());
        for (int i = 1; i <= 100; i++) {
            y.resume(0, 10000);
            kit.same("steps in all", y.about(0, 5), i * 13);
        }
    }

    private static void aboutNothingElse() {
        kit.says("Promise 14", "IllegalArgumentException when what is none of these.");
        StepCode x = with(forAll());
        for (int round = 0; round < 3; round++) {
            for (int what : new int[] {-1, 6, 7, BIG, BEYOND}) {
                kit.fails("what = " + what, Kit.ARGUMENT, () -> x.about(0, what));
                kit.fails("of no process", Kit.INDEX, () -> x.about(1, what));
            }
            if (round < 2) {
                x.resume(0, 2 - round);
            }
        }
    }

    private static void waits() {
        kit.says("Promise 15", "Signal i for which a process waits, in the order of the LIST (none when it does "
                + "not wait).");
        StepCode x = with(Kit.pause(Kit.list(Kit.sig(2), Kit.sig(0), Kit.sig(0), Kit.sig(1)), Kit.num(0),
                Kit.nothing()), Kit.pause(Kit.list(Kit.sig(1)), Kit.nothing(), Kit.nothing()), Kit.pause(),
                Kit.report(by(Kit.num(0))));
        int[][] due = {{}, {2, 0, 0, 1}, {1}, {}, {}};
        for (int[] signals : due) {
            for (int i = 0; i < signals.length; i++) {
                kit.same("signal " + i, x.waits(0, i), signals[i]);
            }
            for (int i : new int[] {-1, signals.length, BIG, BEYOND}) {
                kit.fails("signal " + i, Kit.INDEX, () -> x.waits(0, i));
            }
            for (int p : NO_PROCESS) {
                kit.fails("no process " + p, Kit.INDEX, () -> x.waits(p, 0));
            }
            if (x.about(0, 0) != StepCode.FAULTED) {
                x.resume(0, 9);
            }
        }
    }

    private static void until() {
        kit.says("Promise 16", "How long a process waits at most; NONE without a TIME, and when it does not wait. "
                + "IndexOutOfBoundsException.");
        long[][] times = {{1, 0}, {1000000, 0}, {1, 1}, {1, BIG}, {1000000, 1}, {1000000, 2148}, {1000000, BIG},
            {999999, BIG - 1}};
        for (long[] t : times) {
            StepCode x = with(Kit.pause(Kit.list(), Kit.nothing(), Kit.time((int) t[0], Kit.num((int) t[1]))),
                    Kit.pause(), Kit.skip());
            kit.same("new", x.until(0), -1);
            x.resume(0, 9);
            kit.same(t[1] + " of " + t[0], x.until(0), t[0] * t[1]);
            x.resume(0, 9);
            kit.same("without a TIME", x.until(0), -1);
            x.resume(0, 1);
            kit.same("stopped", x.until(0), -1);
            for (int p : NO_PROCESS) {
                kit.fails("no process " + p, Kit.INDEX, () -> x.until(p));
            }
        }
        StepCode y = with(Kit.pause(Kit.list(), Kit.nothing(), Kit.time(5, Kit.num(5))), Kit.report(by(Kit.num(0))));
        y.resume(0, 9);
        y.resume(0, 9);
        kit.same("faulted", y.until(0), -1);
        StepCode z = with(Kit.pause(Kit.list(), Kit.logic('1'), Kit.time(5, Kit.num(5))));
        z.resume(0, 9);
        z.holds(0);
        kit.same("faulted by holds", z.until(0), -1);
        StepCode u = with(Kit.pause(Kit.list(), Kit.nothing(), Kit.time(5, Kit.sig(2))));
        u.put(2, false, 0, 3);
        u.resume(0, 9);
        u.put(2, false, 0, 9);
        kit.same("as it was found", u.until(0), 15);
    }

    private static void acts() {
        kit.says("Promise 17", "How many acts the last resumption had.");
        StepCode x = with(Kit.pause(), Kit.report(Kit.num(1)), Kit.assign(0, Kit.sig(2), Kit.wave(Kit.num(1))),
                Kit.pause(), Kit.report(Kit.num(1)), Kit.report(by(Kit.num(0))));
        kit.same("before any", x.acts(), 0);
        x.resume(0, 9);
        kit.same("none", x.acts(), 0);
        x.resume(0, 9);
        kit.same("two", x.acts(), 2);
        kit.fails("refused", Kit.ARGUMENT, () -> x.resume(0, 0));
        kit.same("a refused one is none", x.acts(), 2);
        x.resume(0, 9);
        kit.same("one, then a fault", x.acts(), 1);
        kit.fails("refused", Kit.STATE, () -> x.resume(0, 9));
        kit.same("a refused one is none", x.acts(), 1);
        Kit.make(x, Kit.pause());
        x.resume(1, 9);
        kit.same("another process had none", x.acts(), 0);
    }

    private static final int[] NO_ACT = {-1, 4, 199, 200, BIG, BEYOND};

    /** Four acts: a report, one of a row, one of its element, one of NUMBERs. */
    private static StepCode fourActs() {
        StepCode x = with(Kit.report(Kit.num(-BIG)), Kit.assign(1, Kit.sig(1), Kit.wave(Kit.row("01XZ"), 4)),
                Kit.assign(0, Kit.elem(Kit.sig(1), Kit.num(3)), Kit.wave(Kit.logic('-')),
                        Kit.wave(Kit.logic('U'), BIG)),
                Kit.assign(2, Kit.sig(2), Kit.time(1000000, Kit.num(BIG)), Kit.t(31, 0, Kit.num(9),
                        Kit.time(1000000, Kit.num(BIG)))), Kit.pause());
        kit.same("it waits", x.resume(0, 9), StepCode.WAITS);
        return x;
    }

    private static void act() {
        kit.says("Promise 18", "Of act i: what = 0 whether it is a report (1 or 0), 1 its signal, or what it "
                + "tells, 2 the first element from the right, 3 how many, 4 its mode, 5 how many values (2 to 5: "
                + "0 for a report; 2, 3: 0, 1 but for rows). IndexOutOfBoundsException;");
        StepCode x = fourActs();
        int[][] due = {{1, -BIG, 0, 0, 0, 0}, {0, 1, 0, 4, 1, 1}, {0, 1, 3, 1, 0, 2}, {0, 2, 0, 1, 2, 1}};
        for (int i = 0; i < due.length; i++) {
            for (int what = 0; what <= 5; what++) {
                kit.same("act " + i + ", what = " + what, x.act(i, what), due[i][what]);
            }
        }
        for (int i : NO_ACT) {
            kit.fails("no act " + i, Kit.INDEX, () -> x.act(i, 0));
        }
        StepCode y = with(Kit.assign(0, Kit.sig(0), Kit.wave(Kit.logic('1'))),
                Kit.assign(1, Kit.part(Kit.sig(1), 1, 3), Kit.wave(Kit.row("000"))),
                Kit.assign(1, Kit.part(Kit.sig(1), 3, 1), Kit.wave(Kit.row("1"))), waves(16), Kit.pause());
        y.resume(0, 9);
        int[][] more = {{0, 0, 0, 1, 0, 1}, {0, 1, 1, 3, 1, 1}, {0, 1, 3, 1, 1, 1}, {0, 2, 0, 1, 0, 16}};
        for (int i = 0; i < more.length; i++) {
            for (int what = 0; what <= 5; what++) {
                kit.same("act " + i + ", what = " + what, y.act(i, what), more[i][what]);
            }
        }
    }

    /** Act 0 is a report in every second resumption, and an ASSIGN in the others: nothing of the other one stays. */
    private static void actInTurn() {
        StepCode x = with(Kit.assign(2, Kit.part(Kit.sig(1), 1, 2), Kit.time(1, Kit.num(5)),
                Kit.wave(Kit.row("01"), 6)), Kit.pause(), Kit.report(Kit.num(8)),
                Kit.assign(0, Kit.sig(0), Kit.wave(Kit.logic('1'))), Kit.pause());
        int[][] due = {{0, 1, 1, 2, 2, 1}, {1, 8, 0, 0, 0, 0}};
        for (int i = 0; i < 6; i++) {
            x.resume(0, 9);
            for (int what = 0; what <= 5; what++) {
                kit.same("in turn, what = " + what, x.act(0, what), due[i % 2][what]);
            }
            if (i % 2 == 0) {
                kit.same("its times", x.delay(0, 0) * 10 + x.delay(0, StepCode.NONE), 65);
                kit.same("its value", x.value(0, 0, 1) * 10 + x.value(0, 0, 0), 23);
            } else {
                kit.fails("no value", Kit.INDEX, () -> x.value(0, 0, 0));
                kit.fails("no limit", Kit.INDEX, () -> x.delay(0, StepCode.NONE));
                kit.same("the value behind it", x.value(1, 0, 0), 3);
                kit.same("and its limit", x.delay(1, StepCode.NONE), 0);
            }
        }
    }

    private static Kit.Tree waves(int many) {
        Kit.Tree assign = Kit.assign(0, Kit.sig(2));
        for (int w = 0; w < many; w++) {
            assign.kids.add(Kit.wave(Kit.num(w % 10), 3 * w));
        }
        return assign;
    }

    private static void actNothingElse() {
        kit.says("Promise 18", "IllegalArgumentException when what is none of these.");
        StepCode x = fourActs();
        for (int what : new int[] {-1, 6, BIG, BEYOND}) {
            for (int i = 0; i < 4; i++) {
                int act = i;
                kit.fails("what = " + what, Kit.ARGUMENT, () -> x.act(act, what));
            }
            kit.fails("of no act", Kit.INDEX, () -> x.act(4, what));
        }
    }

    private static void values() {
        kit.says("Promise 19", "Element k of value w of act i. IndexOutOfBoundsException.");
        StepCode x = fourActs();
        kit.same("a row, left", x.value(1, 0, 3) * 10 + x.value(1, 0, 2), 23);
        kit.same("a row, right", x.value(1, 0, 1) * 10 + x.value(1, 0, 0), 14);
        kit.same("an element", x.value(2, 0, 0) * 10 + x.value(2, 1, 0), 80);
        kit.same("a NUMBER", x.value(3, 0, 0), 9);
        int[][] none = {{1, 1, 0}, {1, -1, 0}, {1, 0, 4}, {1, 0, -1}, {1, 0, 64}, {1, 0, BIG}, {1, 0, BEYOND},
            {2, 2, 0}, {2, 0, 1}, {2, 0, 3}, {2, -1, 0}, {3, 0, 1}, {3, 1, 0}, {3, 16, 0}, {3, BIG, 0}, {3, BEYOND, 0},
            {0, 0, 0}, {0, -1, 0}};
        for (int[] n : none) {
            kit.fails("no " + n[0] + ", " + n[1] + ", " + n[2], Kit.INDEX, () -> x.value(n[0], n[1], n[2]));
        }
        for (int i : NO_ACT) {
            kit.fails("no act " + i, Kit.INDEX, () -> x.value(i, 0, 0));
        }
        StepCode y = with(waves(16), waves(1), Kit.pause());
        y.resume(0, 9);
        for (int w = 0; w < 16; w++) {
            kit.same("value " + w, y.value(0, w, 0), w % 10);
            kit.same("delay " + w, y.delay(0, w), 3 * w);
        }
        kit.fails("not the next act's", Kit.INDEX, () -> y.value(0, 16, 0));
        y.put(2, false, 0, 7);
        kit.same("as it was found", y.value(1, 0, 0), 0);
        StepCode z = new StepCode();
        z.signal(1, 64, 0);
        Kit.make(z, Kit.assign(0, Kit.sig(0), Kit.wave(Kit.row("01XZ-HLU".repeat(8)))), Kit.pause());
        z.resume(0, 9);
        for (int k = 0; k < 64; k++) {
            kit.same("element " + k + " of 64", z.value(0, 0, k), Kit.CODES.indexOf("ULH-ZX10".charAt(k % 8)));
        }
        kit.fails("element 64 of 64", Kit.INDEX, () -> z.value(0, 0, 64));
    }

    private static void delays() {
        kit.says("Promise 20", "The delay of value w of act i; with w NONE its limit (0 but for mode 2).");
        StepCode x = fourActs();
        kit.same("a delay", x.delay(1, 0), 4);
        kit.same("without a TIME", x.delay(2, 0), 0);
        kit.same("the greatest of unit 1", x.delay(2, 1), BIG);
        kit.same("the greatest of all", x.delay(3, 0), 2147483647000000L);
        kit.same("no limit in mode 1", x.delay(1, StepCode.NONE), 0);
        kit.same("no limit in mode 0", x.delay(2, StepCode.NONE), 0);
        kit.same("a limit", x.delay(3, StepCode.NONE), 2147483647000000L);
        int[][] none = {{1, 1}, {1, -2}, {2, 2}, {3, 1}, {3, 16}, {3, BIG}, {3, BEYOND}};
        for (int[] n : none) {
            kit.fails("no " + n[0] + ", " + n[1], Kit.INDEX, () -> x.delay(n[0], n[1]));
        }
        for (int i : NO_ACT) {
            kit.fails("no act " + i, Kit.INDEX, () -> x.delay(i, 0));
            kit.fails("no limit of act " + i, Kit.INDEX, () -> x.delay(i, StepCode.NONE));
        }
        StepCode y = with(Kit.assign(2, Kit.sig(2), Kit.time(1, Kit.num(0)), Kit.wave(Kit.num(1))), Kit.pause());
        y.resume(0, 9);
        kit.same("a limit of 0", y.delay(0, StepCode.NONE), 0);
    }

    private static void delaysOfReports() {
        kit.says("Promise 20", "IndexOutOfBoundsException (also for a report).");
        StepCode x = fourActs();
        for (int w : new int[] {StepCode.NONE, 0, 1, BIG, BEYOND}) {
            kit.fails("a report's " + w, Kit.INDEX, () -> x.delay(0, w));
        }
    }
}
