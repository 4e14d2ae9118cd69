import java.util.ArrayList;
import java.util.List;
import java.util.TreeMap;

/**
 * Whoever keeps the time of an object's processes: what is assigned is put into signals of LOGIC and rows when its time
 * has come, and processes are resumed when what they wait for has come.
 */
final class Timekeeper {
    private record Change(int signal, int element, int value) {
    }

    private final StepCode x;
    private final int signals;
    private final int processes;
    private final TreeMap<Long, List<Change>> later = new TreeMap<>();
    private final Long[] wake;
    private final List<String> heard = new ArrayList<>();
    private long now;

    Timekeeper(StepCode x, int signals, int processes) {
        this.x = x;
        this.signals = signals;
        this.processes = processes;
        wake = new Long[processes];
    }

    String heard() {
        return String.join(", ", heard);
    }

    void runUntil(long end) {
        for (int p = 0; p < processes; p++) {
            resume(p);
        }
        while (nextTime() < end) {
            now = nextTime();
            boolean[] changed = change();
            for (int p = 0; p < processes; p++) {
                if (isOver(p, changed)) {
                    resume(p);
                }
            }
        }
    }

    private long nextTime() {
        long next = later.isEmpty() ? Long.MAX_VALUE : later.firstKey();
        for (Long time : wake) {
            next = time == null ? next : Math.min(next, time);
        }
        return next;
    }

    /** Puts what is due now; which signals have an event then. */
    private boolean[] change() {
        List<Change> due = later.containsKey(now) ? later.remove(now) : List.of();
        boolean[] changed = new boolean[signals];
        boolean[] active = new boolean[signals];
        for (Change change : due) {
            int old = x.get(change.signal, change.element);
            x.put(change.signal, true, change.element, old);
            x.put(change.signal, false, change.element, change.value);
            changed[change.signal] |= old != change.value;
            active[change.signal] = true;
        }
        for (int s = 0; s < signals; s++) {
            x.mark(s, changed[s], active[s]);
        }
        return changed;
    }

    private boolean isOver(int p, boolean[] changed) {
        if (wake[p] != null && wake[p] == now) {
            return true;
        }
        boolean any = false;
        for (int i = 0; i < x.about(p, 3); i++) {
            any |= changed[x.waits(p, i)];
        }
        return any && x.holds(p) == 1;
    }

    private void resume(int p) {
        int state = x.resume(p, 1000);
        for (int i = 0; i < x.acts(); i++) {
            if (x.act(i, 0) == 1) {
                heard.add(now + ": " + x.act(i, 1));
            } else {
                schedule(i);
            }
        }
        long time = state == StepCode.WAITS ? x.until(p) : StepCode.NONE;
        wake[p] = time == StepCode.NONE ? null : now + time;
    }

    private void schedule(int i) {
        int signal = x.act(i, 1);
        int first = x.act(i, 2);
        int many = x.act(i, 3);
        int values = x.act(i, 5);
        for (int w = 0; w < values; w++) {
            List<Change> at = later.computeIfAbsent(now + x.delay(i, w), time -> new ArrayList<>());
            for (int k = 0; k < many; k++) {
                at.add(new Change(signal, first + k, x.value(i, w, k)));
            }
        }
    }
}
