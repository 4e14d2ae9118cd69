/** What is assigned and reported: promises 17, 18, 19, 20. */
public final class ActsTest {
    private static Kit kit;

    public static void main(String[] args) {
        kit = new Kit("ActsTest");
        assigns();
        targets();
        delays();
        faultsOfValues();
        faultsOfTargets();
        faultsOfTimes();
        orderOfFaults();
        wrongCalls();
        ofTheLastResumption();
        mostReports();
        mostValues();
        mostAssigns();
        kit.end();
    }

    private static StepCode ground() {
        StepCode x = new StepCode();
        x.signal(0, 0, 0);
        x.signal(1, 4, 0);
        x.signal(2, -3, 9);
        x.variable(2, 0, 900);
        return x;
    }

    private static String told(StepCode x, int i) {
        StringBuilder text = new StringBuilder();
        for (int what = 0; what <= 5; what++) {
            text.append(x.act(i, what)).append(what < 5 ? " " : "");
        }
        return text.toString();
    }

    private static String fate(Kit.Tree... statements) {
        StepCode x = ground();
        int made = Kit.make(x, statements);
        if (made != 0) {
            return "WRONG " + made;
        }
        x.resume(0, 9);
        return x.acts() + ": " + Kit.fate(x, 0);
    }

    private static Kit.Tree byZero() {
        return Kit.two(16, Kit.num(1), Kit.num(0));
    }

    private static void assigns() {
        StepCode x = ground();
        Kit.make(x, Kit.assign(0, Kit.sig(0), Kit.wave(Kit.logic('Z'))),
                Kit.report(Kit.num(-7)),
                Kit.assign(1, Kit.sig(1), Kit.wave(Kit.row("UX01"), 3), Kit.wave(Kit.row("ZWLH"), 5)),
                Kit.assign(2, Kit.sig(2), Kit.time(1000, Kit.num(2)), Kit.wave(Kit.num(-3), 2000),
                        Kit.wave(Kit.num(9), 2001), Kit.wave(Kit.num(0), Kit.BIG)), Kit.pause());
        kit.same("it waits", x.resume(0, 9), StepCode.WAITS);
        kit.same("acts", x.acts(), 4);
        kit.same("act 0", told(x, 0), "0 0 0 1 0 1");
        kit.same("its value", x.value(0, 0, 0), 4);
        kit.same("its delay", x.delay(0, 0), 0);
        kit.same("its limit", x.delay(0, -1), 0);
        kit.same("act 1", told(x, 1), "1 -7 0 0 0 0");
        kit.same("act 2", told(x, 2), "0 1 0 4 1 2");
        int[] first = {3, 2, 1, 0};
        for (int k = 0; k < 4; k++) {
            kit.same("element " + k, x.value(2, 0, k), first[k]);
            kit.same("second value's element " + k, x.value(2, 1, k), 7 - k);
        }
        kit.same("its delays", x.delay(2, 0) * 10 + x.delay(2, 1), 35);
        kit.same("act 3", told(x, 3), "0 2 0 1 2 3");
        kit.same("its values", x.value(3, 0, 0) + " " + x.value(3, 1, 0) + " " + x.value(3, 2, 0), "-3 9 0");
        kit.same("its limit", x.delay(3, -1), 2000);
        kit.same("its last delay", x.delay(3, 2), Kit.BIG);
        kit.same("signals are as they were", x.get(0, 0) + " " + x.get(1, 0) + " " + x.get(2, 0), "0 0 -3");
    }

    private static void targets() {
        StepCode x = ground();
        Kit.make(x, Kit.let(Kit.var(0), Kit.num(1)),
                Kit.assign(0, Kit.elem(Kit.sig(1), Kit.two(12, Kit.var(0), Kit.num(2))), Kit.wave(Kit.logic('H'))),
                Kit.assign(1, Kit.part(Kit.sig(1), 1, 3), Kit.wave(Kit.row("-X0"))),
                Kit.assign(1, Kit.part(Kit.sig(1), 2, 1), Kit.wave(Kit.row("W"))), Kit.pause());
        x.resume(0, 9);
        kit.same("an element", told(x, 0), "0 1 3 1 0 1");
        kit.same("its value", x.value(0, 0, 0), 7);
        kit.fails("it has one element", Kit.INDEX, () -> x.value(0, 0, 1));
        kit.same("a part", told(x, 1), "0 1 1 3 1 1");
        kit.same("its value", x.value(1, 0, 0) * 100 + x.value(1, 0, 1) * 10 + x.value(1, 0, 2), 218);
        kit.fails("it has three elements", Kit.INDEX, () -> x.value(1, 0, 3));
        kit.same("a part of one", told(x, 2), "0 1 2 1 1 1");
        kit.same("its value", x.value(2, 0, 0), 5);
        x.put(1, false, 0, 3);
        x.signal(1, 64, 0);
        Kit.make(x, Kit.assign(0, Kit.sig(3), Kit.wave(Kit.row("01XZ-HLU".repeat(8)))), Kit.pause());
        x.resume(1, 9);
        for (int k = 0; k < 64; k++) {
            kit.same("element " + k + " of 64", x.value(0, 0, k), Kit.CODES.indexOf("ULH-ZX10".charAt(k % 8)));
        }
    }

    private static void delays() {
        StepCode x = ground();
        Kit.Tree assign = Kit.assign(0, Kit.sig(2));
        for (int w = 0; w < 16; w++) {
            assign.kids.add(Kit.t(31, 0, Kit.num(w % 10), Kit.time(1000000, Kit.num(Kit.BIG - 15 + w))));
        }
        Kit.make(x, assign, Kit.pause());
        x.resume(0, 9);
        kit.same("sixteen", x.act(0, 5), 16);
        for (int w = 0; w < 16; w++) {
            kit.same("delay " + w, x.delay(0, w), (Kit.BIG - 15L + w) * 1000000L);
            kit.same("value " + w, x.value(0, w, 0), w % 10);
        }
        kit.fails("no value 16", Kit.INDEX, () -> x.value(0, 16, 0));
        kit.fails("no delay 16", Kit.INDEX, () -> x.delay(0, 16));
    }

    private static void faultsOfValues() {
        kit.same("LOGIC := NUMBER", fate(Kit.assign(0, Kit.sig(0), Kit.wave(Kit.num(1)))), "0: 3 at 3");
        kit.same("LOGIC := row", fate(Kit.assign(0, Kit.sig(0), Kit.wave(Kit.row("1")))), "0: 3 at 4");
        kit.same("row := LOGIC", fate(Kit.assign(0, Kit.sig(1), Kit.wave(Kit.logic('1')))), "0: 3 at 3");
        kit.same("row := longer", fate(Kit.assign(0, Kit.sig(1), Kit.wave(Kit.row("01010")))), "0: 4 at 8");
        kit.same("part := all", fate(Kit.assign(0, Kit.part(Kit.sig(1), 0, 3), Kit.wave(Kit.row("0101")))),
                "0: 4 at 10");
        kit.same("part of 1 := LOGIC", fate(Kit.assign(0, Kit.part(Kit.sig(1), 0, 1), Kit.wave(Kit.logic('1')))),
                "0: 3 at 6");
        kit.same("element := row", fate(Kit.assign(0, Kit.elem(Kit.sig(1), Kit.num(0)), Kit.wave(Kit.row("1")))),
                "0: 3 at 6");
        kit.same("NUMBER := LOGIC", fate(Kit.assign(0, Kit.sig(2), Kit.wave(Kit.logic('1')))), "0: 3 at 3");
        kit.same("NUMBER above", fate(Kit.assign(0, Kit.sig(2), Kit.wave(Kit.num(10)))), "0: 8 at 3");
        kit.same("NUMBER below", fate(Kit.assign(0, Kit.sig(2), Kit.wave(Kit.num(-4)))), "0: 8 at 3");
        kit.same("the second one", fate(Kit.assign(0, Kit.sig(2), Kit.wave(Kit.num(1)), Kit.wave(Kit.num(10), 1))),
                "0: 8 at 7");
    }

    private static void faultsOfTargets() {
        for (int k : new int[] {-1, 4, Kit.BIG}) {
            kit.same("no element " + k, fate(Kit.assign(0, Kit.elem(Kit.sig(1), Kit.num(k)), Kit.wave(byZero()))),
                    "0: 6 at 2");
        }
        kit.same("no NUMBER", fate(Kit.assign(0, Kit.elem(Kit.sig(1), Kit.sig(0)), Kit.wave(byZero()))),
                "0: 3 at 2");
        kit.same("a fault", fate(Kit.assign(0, Kit.elem(Kit.sig(1), byZero()), Kit.wave(Kit.num(1)))), "0: 10 at 3");
    }

    private static Kit.Tree late(Kit.Tree value, Kit.Tree n) {
        return Kit.t(31, 0, value, Kit.time(1, n));
    }

    private static void faultsOfTimes() {
        kit.same("below 0", fate(Kit.assign(0, Kit.sig(2), late(Kit.num(1), Kit.num(-1)))), "0: 8 at 3");
        kit.same("no NUMBER", fate(Kit.assign(0, Kit.sig(2), late(Kit.num(1), Kit.row("1")))), "0: 3 at 4");
        kit.same("a fault", fate(Kit.assign(0, Kit.sig(2), late(Kit.num(1), byZero()))), "0: 10 at 4");
        kit.same("the same times", fate(Kit.assign(0, Kit.sig(2), Kit.wave(Kit.num(1), 3), Kit.wave(Kit.num(2), 3))),
                "0: 13 at 9");
        kit.same("falling times", fate(Kit.assign(0, Kit.sig(2), Kit.wave(Kit.num(1), 3), Kit.wave(Kit.num(2), 2))),
                "0: 13 at 9");
        kit.same("two without a TIME", fate(Kit.assign(0, Kit.sig(2), Kit.wave(Kit.num(1)), Kit.wave(Kit.num(2)))),
                "0: 13 at 7");
        kit.same("the third one falls", fate(Kit.assign(0, Kit.sig(2), Kit.wave(Kit.num(1)), Kit.wave(Kit.num(2), 5),
                Kit.wave(Kit.num(3), 4))), "0: 13 at 12");
        kit.same("a limit above the first", fate(Kit.assign(2, Kit.sig(2), Kit.time(1, Kit.num(4)),
                Kit.wave(Kit.num(1), 3), Kit.wave(Kit.num(1), 9))), "0: 13 at 11");
        kit.same("a limit like the first", fate(Kit.assign(2, Kit.sig(2), Kit.time(1, Kit.num(3)),
                Kit.wave(Kit.num(1), 3)), Kit.pause()), "1: waits");
        kit.same("a limit above no TIME", fate(Kit.assign(2, Kit.sig(2), Kit.time(1, Kit.num(1)),
                Kit.wave(Kit.num(1)))), "0: 13 at 6");
        kit.same("a limit below 0", fate(Kit.assign(2, Kit.sig(2), Kit.time(1, Kit.num(-1)),
                Kit.wave(byZero()))), "0: 8 at 2");
        kit.same("a limit that is no NUMBER", fate(Kit.assign(2, Kit.sig(2), Kit.time(1, Kit.sig(1)),
                Kit.wave(byZero()))), "0: 3 at 2");
    }

    private static void orderOfFaults() {
        kit.same("element, then limit", fate(Kit.assign(2, Kit.elem(Kit.sig(1), Kit.num(4)),
                Kit.time(1, Kit.num(-1)), Kit.wave(Kit.num(1)))), "0: 6 at 2");
        kit.same("limit, then value", fate(Kit.assign(2, Kit.sig(2), Kit.time(1, Kit.num(-1)),
                Kit.wave(Kit.num(99)))), "0: 8 at 2");
        kit.same("value, then its delay", fate(Kit.assign(0, Kit.sig(2), late(Kit.num(99), Kit.num(-1)))),
                "0: 8 at 4");
        kit.same("delay, then the next value", fate(Kit.assign(0, Kit.sig(2), late(Kit.num(1), Kit.num(-1)),
                Kit.wave(byZero()))), "0: 8 at 3");
        kit.same("next value, then the order of times", fate(Kit.assign(0, Kit.sig(2), Kit.wave(Kit.num(1), 5),
                late(Kit.logic('0'), Kit.num(3)))), "0: 3 at 8");
    }

    private static void wrongCalls() {
        StepCode x = ground();
        Kit.make(x, Kit.report(Kit.num(3)), Kit.assign(1, Kit.sig(1), Kit.wave(Kit.row("0101"))), Kit.pause());
        x.resume(0, 9);
        for (int i : new int[] {-1, 2, 200, Kit.BIG, Integer.MIN_VALUE}) {
            kit.fails("act " + i, Kit.INDEX, () -> x.act(i, 9));
            kit.fails("value of act " + i, Kit.INDEX, () -> x.value(i, 0, 0));
            kit.fails("delay of act " + i, Kit.INDEX, () -> x.delay(i, 0));
            kit.fails("limit of act " + i, Kit.INDEX, () -> x.delay(i, -1));
        }
        for (int what : new int[] {-1, 6, Kit.BIG}) {
            kit.fails("what " + what, Kit.ARGUMENT, () -> x.act(0, what));
            kit.fails("what " + what, Kit.ARGUMENT, () -> x.act(1, what));
        }
        for (int w : new int[] {-1, 0, 1}) {
            kit.fails("value of a report", Kit.INDEX, () -> x.value(0, w, 0));
            kit.fails("delay of a report", Kit.INDEX, () -> x.delay(0, w));
        }
        kit.fails("value -1", Kit.INDEX, () -> x.value(1, -1, 0));
        kit.fails("value 1", Kit.INDEX, () -> x.value(1, 1, 0));
        kit.fails("element -1", Kit.INDEX, () -> x.value(1, 0, -1));
        kit.fails("element 4", Kit.INDEX, () -> x.value(1, 0, 4));
        kit.fails("delay 1", Kit.INDEX, () -> x.delay(1, 1));
        kit.fails("delay -2", Kit.INDEX, () -> x.delay(1, -2));
    }

    private static void ofTheLastResumption() {
        StepCode x = ground();
        Kit.make(x, Kit.report(Kit.num(1)), Kit.pause(), Kit.report(Kit.num(2)), Kit.report(Kit.num(3)),
                Kit.pause(), Kit.assign(0, Kit.sig(2), Kit.wave(Kit.num(4))), Kit.report(byZero()));
        kit.same("none yet", x.acts(), 0);
        x.resume(0, 9);
        kit.same("one", Kit.reports(x), "1");
        kit.fails("a call that throws", Kit.ARGUMENT, () -> x.resume(0, 0));
        kit.fails("a call that throws", Kit.INDEX, () -> x.resume(1, 9));
        kit.same("is no resumption", Kit.reports(x), "1");
        Kit.make(x, Kit.pause());
        kit.same("nor is a new process", Kit.reports(x), "1");
        x.resume(0, 9);
        kit.same("two", Kit.reports(x), "2 3");
        x.resume(1, 9);
        kit.same("another process had none", x.acts(), 0);
        x.resume(0, 9);
        kit.same("faulted", Kit.fate(x, 0).substring(0, 2), "10");
        kit.same("but one was done", x.acts(), 1);
        kit.same("and is told", told(x, 0), "0 2 0 1 0 1");
        kit.fails("it has ended", Kit.STATE, () -> x.resume(0, 9));
        kit.same("and is told still", told(x, 0), "0 2 0 1 0 1");
    }

    /** A process that does its statement 199, 200 and 201 times. */
    private static StepCode often(int times, Kit.Tree... statements) {
        StepCode x = ground();
        Kit.make(x, Kit.up(Kit.var(0), Kit.num(1), Kit.num(times), statements), Kit.pause());
        x.resume(0, 10000);
        return x;
    }

    private static void mostReports() {
        kit.same("199", often(199, Kit.report(Kit.var(0))).acts(), 199);
        StepCode x = often(200, Kit.report(Kit.var(0)));
        kit.same("200", x.acts(), 200);
        kit.same("it waits", Kit.fate(x, 0), "waits");
        kit.same("the last one", x.act(199, 1), 200);
        StepCode y = often(201, Kit.report(Kit.var(0)));
        kit.same("201", Kit.fate(y, 0), "14 at 4");
        kit.same("200 of them", y.acts(), 200);
        kit.fails("no act 200", Kit.INDEX, () -> y.act(200, 0));
        kit.same("another fault comes first", Kit.fate(often(201, Kit.report(Kit.two(16, Kit.num(1),
                Kit.two(13, Kit.num(201), Kit.var(0))))), 0), "10 at 7");
        kit.same("ASSERT", Kit.fate(often(201, Kit.check(Kit.num(0), Kit.var(0))), 0), "14 at 5");
        kit.same("a silent ASSERT is no act", Kit.fate(often(201, Kit.check(Kit.num(1), Kit.var(0))), 0), "waits");
        x.resume(0, 10000);
        kit.same("the next resumption has its own", x.acts(), 200);
    }

    private static Kit.Tree waves(int many) {
        Kit.Tree assign = Kit.assign(0, Kit.sig(2));
        for (int w = 0; w < many; w++) {
            assign.kids.add(Kit.wave(Kit.num(w % 10), w));
        }
        return assign;
    }

    private static void mostValues() {
        StepCode x = often(50, waves(10));
        kit.same("500 values", Kit.fate(x, 0), "waits");
        kit.same("50 acts", x.acts(), 50);
        kit.same("the last one", x.value(49, 9, 0) * 10 + x.delay(49, 9), 99);
        StepCode y = often(51, waves(10));
        kit.same("510 values", Kit.fate(y, 0), "14 at " + (3 + 1 + 4 * 10));
        kit.same("50 acts", y.acts(), 50);
        StepCode z = often(32, waves(16));
        kit.same("512 values", z.about(0, 1), 14);
        kit.same("31 acts", z.acts(), 31);
        StepCode u = ground();
        Kit.make(u, Kit.up(Kit.var(0), Kit.num(1), Kit.num(31), waves(16)), waves(4), Kit.report(Kit.num(5)),
                waves(1));
        u.resume(0, 10000);
        kit.same("500 values, a report, one more", u.about(0, 1), 14);
        kit.same("33 acts", u.acts(), 33);
        kit.same("the report", u.act(32, 1), 5);
        StepCode v = ground();
        Kit.Tree falling = Kit.assign(0, Kit.sig(2), Kit.wave(Kit.num(1), 3), Kit.wave(Kit.num(1), 2));
        Kit.make(v, Kit.up(Kit.var(0), Kit.num(1), Kit.num(31), waves(16)), waves(4), falling);
        v.resume(0, 10000);
        kit.same("another fault comes first", Kit.fate(v, 0), "13 at " + falling.number);
    }

    private static void mostAssigns() {
        StepCode x = often(201, waves(1));
        kit.same("201 acts", x.about(0, 1), 14);
        kit.same("200 of them", x.acts(), 200);
        kit.same("the last one's value", x.value(199, 0, 0), 0);
        StepCode y = often(100, waves(2), Kit.report(Kit.var(0)));
        kit.same("100 and 100", Kit.fate(y, 0), "waits");
        kit.same("the last one", y.act(199, 1), 100);
        kit.same("the last ASSIGN", y.value(198, 1, 0), 1);
    }
}
