import java.lang.management.ManagementFactory;

/** What the dearest calls of an object make fits into the room that all calls of a run have. */
public final class RoomTest {
    private static final long LITTLE = 600_000;

    public static void main(String[] args) {
        Kit kit = new Kit("RoomTest");
        StepCode[] kept = {null};
        long made = bytes(() -> kept[0] = new StepCode());
        kit.same("a new object makes little: " + made, made < LITTLE * 2 ? 1 : 0, 1);
        StepCode x = kept[0];
        x.signal(1, 64, 0);
        x.variable(1, 64, 0);
        x.variable(2, 0, 1000);
        Kit.Tree sum = Kit.two(12, Kit.two(14, Kit.part(Kit.sig(0), 0, 32), Kit.part(Kit.var(0), 32, 32)),
                Kit.two(19, Kit.one(0, Kit.row("01LHUX-Z".repeat(8))), Kit.num(3)));
        Kit.make(x, Kit.up(Kit.var(1), Kit.num(1), Kit.num(30), Kit.assign(1, Kit.sig(0), Kit.wave(sum),
                Kit.wave(Kit.row("01LHUX-Z".repeat(8)), 9)), Kit.let(Kit.var(0), Kit.sig(0)),
                Kit.cases(Kit.num(1), Kit.choice(Kit.list(Kit.num(2), Kit.num(3), Kit.others())))),
                Kit.let(Kit.var(1), Kit.num(0)), Kit.loopWhile(Kit.two(8, Kit.var(1), Kit.num(1000)),
                Kit.let(Kit.var(1), Kit.two(12, Kit.var(1), Kit.num(1)))), Kit.pause(Kit.list(),
                Kit.two(6, Kit.sig(0), Kit.var(0)), Kit.time(1, Kit.num(1))));
        made = bytes(() -> {
            for (int i = 0; i < 100; i++) {
                kit.same("it waits", x.resume(0, 10000), StepCode.WAITS);
                kit.same("it holds", x.holds(0), 1);
            }
        });
        kit.same("resumptions make next to nothing: " + made, made < LITTLE ? 1 : 0, 1);
        kit.same("steps", x.about(0, 5), 100 * (1 + 2 + 30 * 4 + 1 + 1 + 1001 + 1000 + 1));
        processes(kit);
        kit.end();
    }

    /** All processes that an object's calls can make. */
    private static void processes(Kit kit) {
        StepCode x = new StepCode();
        long made = bytes(() -> {
            for (int p = 0; p < 64; p++) {
                for (int i = 0; i < 5; i++) {
                    x.add(45, 0, 0);
                }
                x.add(48, 0, 5);
                kit.same("process", x.process(), p);
            }
        });
        kit.same("processes make little: " + made, made < LITTLE ? 1 : 0, 1);
    }

    private static long bytes(Kit.Call call) {
        com.sun.management.ThreadMXBean threads =
                (com.sun.management.ThreadMXBean) ManagementFactory.getThreadMXBean();
        long id = Thread.currentThread().getId();
        long before = threads.getThreadAllocatedBytes(id);
        call.run();
        return threads.getThreadAllocatedBytes(id) - before;
    }
}
