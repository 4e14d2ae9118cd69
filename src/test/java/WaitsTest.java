/** Waiting processes: promises 13, 14, 15, 16. */
public final class WaitsTest {
    private static Kit kit;

    public static void main(String[] args) {
        kit = new Kit("WaitsTest");
        waitsForNothing();
        waitsForAll();
        eachWaitItsOwn();
        notWaiting();
        expressions();
        faultsOfHolds();
        times();
        faultsOfTimes();
        kit.end();
    }

    private static StepCode ground() {
        StepCode x = new StepCode();
        x.signal(0, 0, 0);
        x.signal(2, 0, 9);
        x.signal(1, 3, 0);
        x.variable(2, 0, 9);
        return x;
    }

    private static void waitsForNothing() {
        StepCode x = ground();
        Kit.make(x, Kit.pause());
        kit.same("new: until", x.until(0), -1);
        kit.same("new: signals", x.about(0, 3), 0);
        kit.same("new: expression", x.about(0, 4), 0);
        kit.fails("new: signal 0", Kit.INDEX, () -> x.waits(0, 0));
        kit.fails("new: holds", Kit.STATE, () -> x.holds(0));
        x.resume(0, 5);
        kit.same("signals", x.about(0, 3), 0);
        kit.same("expression", x.about(0, 4), 0);
        kit.same("until", x.until(0), -1);
        kit.same("holds", x.holds(0), 1);
        kit.fails("signal 0", Kit.INDEX, () -> x.waits(0, 0));
        for (int p : new int[] {-1, 1, Kit.BIG}) {
            kit.fails("until " + p, Kit.INDEX, () -> x.until(p));
            kit.fails("holds " + p, Kit.INDEX, () -> x.holds(p));
            kit.fails("waits " + p, Kit.INDEX, () -> x.waits(p, 0));
        }
    }

    private static void waitsForAll() {
        StepCode x = ground();
        Kit.make(x, Kit.pause(Kit.list(Kit.sig(2), Kit.sig(0), Kit.sig(2), Kit.sig(1)), Kit.num(0),
                Kit.time(1000, Kit.num(3))));
        x.resume(0, 2);
        kit.same("signals", x.about(0, 3), 4);
        int[] due = {2, 0, 2, 1};
        for (int i = 0; i < 4; i++) {
            kit.same("signal " + i, x.waits(0, i), due[i]);
        }
        for (int i : new int[] {-1, 4, Kit.BIG, Integer.MIN_VALUE}) {
            kit.fails("signal " + i, Kit.INDEX, () -> x.waits(0, i));
        }
        kit.same("expression", x.about(0, 4), 1);
        kit.same("until", x.until(0), 3000);
        kit.same("holds", x.holds(0), 0);
    }

    private static void eachWaitItsOwn() {
        StepCode x = ground();
        Kit.make(x, Kit.pause(Kit.list(Kit.sig(1)), Kit.nothing(), Kit.time(7, Kit.num(1))),
                Kit.pause(Kit.list(), Kit.num(1), Kit.nothing()));
        for (int i = 0; i < 3; i++) {
            x.resume(0, 9);
            kit.same("first: signals", x.about(0, 3), 1);
            kit.same("first: expression", x.about(0, 4), 0);
            kit.same("first: until", x.until(0), 7);
            x.resume(0, 9);
            kit.same("second: signals", x.about(0, 3), 0);
            kit.same("second: expression", x.about(0, 4), 1);
            kit.same("second: until", x.until(0), -1);
        }
    }

    private static void notWaiting() {
        StepCode x = ground();
        Kit.make(x, Kit.pause(Kit.list(Kit.sig(1)), Kit.num(1), Kit.time(7, Kit.num(1))), Kit.skip(), Kit.skip());
        x.resume(0, 2);
        kit.same("it waits", x.until(0), 7);
        x.resume(0, 1);
        kit.same("stopped", Kit.fate(x, 0), "stopped");
        kit.same("signals", x.about(0, 3), 0);
        kit.same("expression", x.about(0, 4), 0);
        kit.same("until", x.until(0), -1);
        kit.fails("signal 0", Kit.INDEX, () -> x.waits(0, 0));
        kit.fails("holds", Kit.STATE, () -> x.holds(0));
    }

    private static void expressions() {
        StepCode x = ground();
        Kit.make(x, Kit.report(Kit.num(4)), Kit.pause(Kit.list(),
                Kit.two(0, Kit.two(6, Kit.sig(0), Kit.logic('1')), Kit.var(0)), Kit.nothing()));
        x.resume(0, 9);
        int steps = x.about(0, 5);
        kit.same("not yet", x.holds(0), 0);
        x.put(0, false, 0, 3);
        kit.same("still not", x.holds(0), 0);
        x.set(0, 0, 0, 5);
        kit.same("now", x.holds(0), 1);
        x.put(0, false, 0, 7);
        kit.same("not any more", x.holds(0), 0);
        kit.same("it still waits", x.about(0, 0), StepCode.WAITS);
        kit.same("looking is no step", x.about(0, 5), steps);
        kit.same("acts stay", Kit.reports(x), "4");
        kit.same("it goes on even so", x.resume(0, 9), StepCode.WAITS);
        Kit.make(x, Kit.pause(Kit.list(), Kit.num(-3), Kit.nothing()));
        x.resume(1, 9);
        kit.same("any NUMBER but 0 is true", x.holds(1), 1);
    }

    private static void faultsOfHolds() {
        StepCode x = ground();
        Kit.make(x, Kit.report(Kit.num(8)), Kit.pause(Kit.list(Kit.sig(0)),
                Kit.two(16, Kit.num(1), Kit.sig(1)), Kit.time(1, Kit.num(2))));
        kit.same("the expression is not looked at yet", x.resume(0, 9), StepCode.WAITS);
        kit.same("by 0", x.holds(0), 2);
        kit.same("fate", Kit.fate(x, 0), "10 at 6");
        kit.same("acts stay", Kit.reports(x), "8");
        kit.same("signals", x.about(0, 3), 0);
        kit.same("expression", x.about(0, 4), 0);
        kit.same("until", x.until(0), -1);
        kit.fails("signal 0", Kit.INDEX, () -> x.waits(0, 0));
        kit.fails("it does not wait", Kit.STATE, () -> x.holds(0));
        kit.fails("it has ended", Kit.STATE, () -> x.resume(0, 9));
        for (Kit.Tree e : new Kit.Tree[] {Kit.logic('1'), Kit.sig(0), Kit.sig(2)}) {
            StepCode y = ground();
            Kit.Tree wait = Kit.pause(Kit.list(), e, Kit.nothing());
            Kit.make(y, wait);
            y.resume(0, 9);
            kit.same("no NUMBER", y.holds(0), 2);
            kit.same("fate", Kit.fate(y, 0), "3 at " + wait.number);
        }
        StepCode z = ground();
        Kit.make(z, Kit.pause(Kit.list(), Kit.two(16, Kit.num(1), Kit.sig(1)), Kit.nothing()));
        z.resume(0, 9);
        z.put(1, false, 0, 1);
        kit.same("no fault now", z.holds(0), 1);
        z.put(1, false, 0, 2);
        kit.same("1 by 2", z.holds(0), 0);
    }

    private static void times() {
        long[][] due = {{1, 0, 0}, {1, Kit.BIG, Kit.BIG}, {1000000, Kit.BIG, 2147483647000000L}, {1000, 5, 5000}};
        for (long[] d : due) {
            StepCode x = ground();
            Kit.make(x, Kit.pause(Kit.list(), Kit.nothing(), Kit.time((int) d[0], Kit.num((int) d[1]))));
            x.resume(0, 2);
            kit.same(d[1] + " of " + d[0], x.until(0), d[2]);
        }
    }

    private static void faultsOfTimes() {
        Kit.Tree[] times = {Kit.time(1, Kit.num(-1)), Kit.time(1, Kit.logic('1')),
            Kit.time(1, Kit.two(17, Kit.num(1), Kit.num(0)))};
        String[] due = {"8 at 3", "3 at 3", "10 at 4"};
        for (int i = 0; i < times.length; i++) {
            StepCode x = ground();
            Kit.make(x, Kit.pause(Kit.list(), Kit.nothing(), times[i]));
            kit.same("faulted", x.resume(0, 2), StepCode.FAULTED);
            kit.same("TIME " + i, Kit.fate(x, 0), due[i]);
            kit.same("until", x.until(0), -1);
            kit.same("steps", x.about(0, 5), 2);
        }
    }
}
