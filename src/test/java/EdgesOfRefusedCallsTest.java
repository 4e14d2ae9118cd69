import java.util.ArrayList;
import java.util.List;
import java.util.function.ToLongFunction;

/** Calls that are refused: they change nothing, and throw what is named first. */
public final class EdgesOfRefusedCallsTest {
    private static final int BIG = Kit.BIG;
    private static final int BEYOND = Integer.MIN_VALUE;
    private static Kit kit;

    public static void main(String[] args) {
        kit = new Kit("EdgesOfRefusedCallsTest");
        changeNothing();
        changeNothingWhenFull();
        namedFirst();
        noSuchThing();
        kit.end();
    }

    private static long done(Runnable call) {
        call.run();
        return 0;
    }

    /** Calls that all are answered, with all that there is to be seen among them. */
    private static List<ToLongFunction<StepCode>> story() {
        List<ToLongFunction<StepCode>> all = new ArrayList<>();
        all.add(x -> x.signal(0, 0, 0));
        all.add(x -> x.signal(1, 4, 0));
        all.add(x -> x.signal(2, -3, 9));
        all.add(x -> x.variable(2, 2, 5));
        all.add(x -> x.variable(1, 3, 0));
        add(all, Kit.list(Kit.report(Kit.var(0)), Kit.report(Kit.t(85, 15, Kit.sig(2))),
                Kit.report(Kit.t(85, 16, Kit.sig(2))), Kit.report(Kit.t(85, 17, Kit.sig(2))),
                Kit.assign(2, Kit.sig(2), Kit.time(3, Kit.num(2)), Kit.wave(Kit.sig(2), 7), Kit.wave(Kit.num(9), 8)),
                Kit.pause(Kit.list(Kit.sig(1), Kit.sig(2)), Kit.sig(2), Kit.time(5, Kit.var(0)))));
        all.add(StepCode::process);
        all.add(x -> x.variable(0, 0, 0));
        add(all, Kit.list(Kit.report(Kit.two(16, Kit.num(1), Kit.num(0)))));
        all.add(StepCode::process);
        all.add(StepCode::processes);
        all.add(x -> done(() -> x.put(2, false, 0, 4)));
        all.add(x -> done(() -> x.put(2, true, 0, 6)));
        all.add(x -> done(() -> x.mark(2, true, false)));
        all.add(x -> done(() -> x.set(0, 0, 0, 3)));
        all.add(x -> x.resume(0, 50));
        look(all);
        all.add(x -> x.holds(0));
        all.add(x -> x.resume(1, 50));
        look(all);
        add(all, Kit.list(Kit.loop()));
        all.add(StepCode::process);
        all.add(x -> x.resume(2, 3));
        look(all);
        all.add(x -> x.resume(0, 50));
        look(all);
        return all;
    }

    private static void add(List<ToLongFunction<StepCode>> all, Kit.Tree tree) {
        List<Kit.Tree> nodes = new ArrayList<>();
        tree.collect(nodes);
        for (Kit.Tree node : nodes) {
            all.add(x -> x.add(node.kind, node.value, node.kids.size()));
        }
    }

    private static void look(List<ToLongFunction<StepCode>> all) {
        all.add(StepCode::acts);
        all.add(x -> x.acts() > 0 ? x.act(0, 1) : -7);
        all.add(x -> x.acts() > 4 ? x.value(4, 1, 0) * 1000 + x.delay(4, 0) * 10 + x.delay(4, -1) : -7);
        for (int p = 0; p < 2; p++) {
            int of = p;
            for (int what = 0; what <= 5; what++) {
                int told = what;
                all.add(x -> x.about(of, told));
            }
            all.add(x -> x.until(of));
        }
        all.add(x -> x.about(0, 3) > 1 ? x.waits(0, 1) : -7);
        all.add(x -> x.get(0, 0) + x.get(1, 3));
        all.add(x -> x.get(2, 0));
        all.add(x -> x.variableOf(0, 0, 0) * 10 + x.variableOf(0, 1, 2));
        all.add(x -> x.variableOf(1, 0, 0));
    }

    /** Each is refused at every point of the story. */
    private static List<Kit.Call> refused(StepCode x) {
        List<Kit.Call> all = new ArrayList<>(List.of(
            () -> x.signal(3, 0, 0), () -> x.signal(-1, 0, 0), () -> x.signal(0, 1, 0), () -> x.signal(1, 65, 0),
            () -> x.signal(1, 0, 0), () -> x.signal(1, 4, 1), () -> x.signal(2, 1, 0), () -> x.signal(2, BEYOND, 0),
            () -> x.variable(3, 0, 0), () -> x.variable(0, 0, 1), () -> x.variable(1, 65, 0), () -> x.variable(2, 1, 0),
            () -> x.add(-1, 0, 0), () -> x.add(100, 0, 0), () -> x.add(48, 0, -1), () -> x.add(48, 0, 500),
            () -> x.add(100, 0, 1), () -> x.add(45, 0, BIG), () -> x.put(-1, false, 0, 0), () -> x.put(3, true, 0, 0),
            () -> x.put(0, false, 1, 2), () -> x.put(0, false, 0, 9), () -> x.put(0, true, 0, -1),
            () -> x.put(1, false, 4, 2), () -> x.put(1, false, 0, 9), () -> x.put(1, true, 3, -1),
            () -> x.put(2, false, 0, 10), () -> x.put(2, true, 0, -4), () -> x.put(2, true, 1, 0)));
        all.addAll(List.of(
            () -> x.mark(-1, true, true), () -> x.mark(3, true, true), () -> x.get(3, 0), () -> x.get(1, 4),
            () -> x.set(3, 0, 0, 3), () -> x.set(0, 2, 0, 3), () -> x.set(0, 0, 1, 3), () -> x.set(0, 0, 0, 6),
            () -> x.set(0, 0, 0, 1), () -> x.set(0, 1, 3, 3), () -> x.set(0, 1, 0, 9), () -> x.set(1, 0, 0, -1),
            () -> x.variableOf(0, 0, 1), () -> x.variableOf(3, 0, 0), () -> x.resume(-1, 9), () -> x.resume(3, 9),
            () -> x.resume(0, 0), () -> x.resume(0, 10001), () -> x.resume(1, -1), () -> x.resume(1, BIG),
            () -> x.holds(3), () -> x.holds(-1), () -> x.holds(1), () -> x.about(0, 6), () -> x.about(1, -1),
            () -> x.about(3, 0), () -> x.waits(0, 2), () -> x.waits(0, -1), () -> x.waits(1, 0), () -> x.until(3),
            () -> x.act(6, 0), () -> x.act(-1, 0), () -> x.act(0, 6), () -> x.value(0, 0, 0), () -> x.value(4, 2, 0),
            () -> x.delay(0, 0), () -> x.delay(0, -1), () -> x.delay(4, 2), () -> x.delay(6, -1)));
        return all;
    }

    private static boolean isRefused(Kit.Call call) {
        try {
            call.run();
            return false;
        } catch (IllegalArgumentException | IllegalStateException | IndexOutOfBoundsException e) {
            return true;
        }
    }

    private static void changeNothing() {
        kit.says("Terms", "A call that throws changes nothing;");
        List<ToLongFunction<StepCode>> story = story();
        StepCode plain = new StepCode();
        List<Long> due = new ArrayList<>();
        for (ToLongFunction<StepCode> call : story) {
            due.add(call.applyAsLong(plain));
        }
        int many = refused(plain).size();
        for (int r = 0; r < many; r++) {
            StepCode x = new StepCode();
            Kit.Call call = refused(x).get(r);
            for (int i = 0; i < story.size(); i++) {
                kit.same("call " + r + " is refused before call " + i, isRefused(call) ? 1 : 0, 1);
                kit.same("behind refused call " + r + ", call " + i, story.get(i).applyAsLong(x), due.get(i));
            }
        }
        kit.same("the story ends with a process that waits", plain.about(0, 0), StepCode.WAITS);
        kit.same("one that has faulted", plain.about(1, 0), StepCode.FAULTED);
        kit.same("and one that has stopped", plain.about(2, 0), StepCode.STOPPED);
    }

    /** Calls that are refused because of what the object is. */
    private static void changeNothingWhenFull() {
        StepCode x = new StepCode();
        Kit.make(x, Kit.report(Kit.num(4)), Kit.pause());
        x.resume(0, 9);
        x.resume(0, 1);
        Kit.make(x, Kit.report(Kit.num(5)), Kit.pause(Kit.list(), Kit.num(0), Kit.nothing()));
        x.resume(1, 9);
        for (int i = 0; i < 3; i++) {
            kit.fails("it has stopped", Kit.STATE, () -> x.resume(0, 9));
            kit.fails("it does not wait", Kit.STATE, () -> x.holds(0));
            kit.same("the acts stay", Kit.reports(x), "5");
            kit.same("it is as it was", Kit.fate(x, 0) + " " + x.about(0, 5), "stopped 4");
            kit.same("the other one waits", x.holds(1), 0);
        }
        for (int i = 2; i < 64; i++) {
            Kit.make(x);
        }
        x.variable(2, 3, 4);
        x.add(48, 0, 0);
        for (int i = 0; i < 3; i++) {
            kit.fails("there are 64", Kit.STATE, () -> x.process());
            kit.same("64", x.processes(), 64);
            kit.same("the next variable", x.variable(0, 0, 0), i + 1);
            kit.same("the next node has the tree", x.add(48, 0, 1), i + 1);
        }
        StepCode y = new StepCode();
        for (int i = 0; i < 128; i++) {
            y.variable(2, i, i);
        }
        for (int i = 0; i < 3; i++) {
            kit.fails("there are 128", Kit.STATE, () -> y.variable(0, 0, 0));
        }
        kit.same("process", Kit.make(y, Kit.pause()), 0);
        kit.same("the last one is as it was", y.variableOf(0, 127, 0), 127);
    }

    private static void namedFirst() {
        kit.says("Terms", "where several exceptions that a call names fit, the one named first is thrown.");
        StepCode x = new StepCode();
        for (int i = 0; i < 64; i++) {
            Kit.make(x);
        }
        for (int i = 0; i < 128; i++) {
            x.variable(0, 0, 0);
        }
        x.signal(0, 0, 0);
        x.resume(0, 1);
        kit.fails("variable: wrong, and 128", Kit.ARGUMENT, () -> x.variable(0, 1, 0));
        kit.fails("put: no signal, and wrong", Kit.INDEX, () -> x.put(1, false, 0, 9));
        kit.fails("put: no element, and wrong", Kit.INDEX, () -> x.put(0, true, 1, 9));
        kit.fails("set: no process, and wrong", Kit.INDEX, () -> x.set(64, 0, 0, 9));
        kit.fails("set: no variable, and wrong", Kit.INDEX, () -> x.set(0, 0, 0, 9));
        kit.fails("resume: no process, and wrong steps", Kit.INDEX, () -> x.resume(64, 0));
        kit.fails("resume: wrong steps, and stopped", Kit.ARGUMENT, () -> x.resume(0, 10001));
        kit.fails("holds: no process", Kit.INDEX, () -> x.holds(-1));
        kit.fails("about: no process, and nothing told", Kit.INDEX, () -> x.about(64, 6));
        kit.fails("act: no act, and nothing told", Kit.INDEX, () -> x.act(0, 6));
        StepCode y = new StepCode();
        y.variable(1, 2, 0);
        Kit.make(y, Kit.pause());
        kit.fails("set: no element, and wrong", Kit.INDEX, () -> y.set(0, 0, 2, 9));
        kit.fails("set: wrong", Kit.ARGUMENT, () -> y.set(0, 0, 1, 9));
    }

    private static void noSuchThing() {
        kit.says("Terms", "IndexOutOfBoundsException: there is no such signal, element, process, variable, or "
                + "thing told.");
        StepCode x = new StepCode();
        x.signal(1, 3, 0);
        x.variable(1, 2, 0);
        Kit.make(x, Kit.assign(0, Kit.sig(0), Kit.wave(Kit.row("010"))),
                Kit.pause(Kit.list(Kit.sig(0)), Kit.nothing(), Kit.nothing()));
        x.resume(0, 9);
        for (int n : new int[] {-1, 1, BIG, BEYOND}) {
            kit.fails("no signal " + n, Kit.INDEX, () -> x.get(n, 0));
            kit.fails("no signal to be put " + n, Kit.INDEX, () -> x.put(n, false, 0, 0));
            kit.fails("no signal to be marked " + n, Kit.INDEX, () -> x.mark(n, false, false));
            kit.fails("no process " + n, Kit.INDEX, () -> x.until(n));
            kit.fails("no process to be resumed " + n, Kit.INDEX, () -> x.resume(n, 9));
            kit.fails("no process with variables " + n, Kit.INDEX, () -> x.variableOf(n, 0, 0));
            kit.fails("no variable " + n, Kit.INDEX, () -> x.variableOf(0, n, 0));
            kit.fails("no variable to be set " + n, Kit.INDEX, () -> x.set(0, n, 0, 0));
            kit.fails("no signal waited for " + n, Kit.INDEX, () -> x.waits(0, n));
            kit.fails("no act " + n, Kit.INDEX, () -> x.act(n, 0));
            kit.fails("no value " + n, Kit.INDEX, () -> x.value(0, n, 0));
        }
        for (int k : new int[] {-1, 3, 64, BIG, BEYOND}) {
            kit.fails("no element " + k, Kit.INDEX, () -> x.get(0, k));
            kit.fails("no element to be put " + k, Kit.INDEX, () -> x.put(0, true, k, 0));
            kit.fails("no element of a variable " + k, Kit.INDEX, () -> x.variableOf(0, 0, k));
            kit.fails("no element to be set " + k, Kit.INDEX, () -> x.set(0, 0, k, 0));
            kit.fails("no element of a value " + k, Kit.INDEX, () -> x.value(0, 0, k));
        }
        kit.same("but there are these", x.get(0, 2) + x.variableOf(0, 0, 1) + x.value(0, 0, 2), 2);
        kit.same("and these", x.waits(0, 0) + x.act(0, 1) + x.delay(0, 0), 0);
    }
}
