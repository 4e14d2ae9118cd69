import java.util.Random;

/** Calls with any arguments in any order, far beyond 512 of them: as the Model's, and never the machine's own. */
public final class WildCallsTest {
    private static final int OBJECTS = 400;
    private static final int CALLS = 1500;

    private interface Ask {
        long of();
    }

    private final Random random;
    private final StepCode x = new StepCode();
    private final Model m = new Model();

    private WildCallsTest(int seed) {
        random = new Random(seed);
    }

    public static void main(String[] args) {
        Kit kit = new Kit("WildCallsTest");
        for (int seed = 1; seed <= OBJECTS; seed++) {
            WildCallsTest test = new WildCallsTest(seed);
            for (int i = 0; i < CALLS; i++) {
                test.call(kit, "object " + seed + ", call " + i);
            }
        }
        kit.end();
    }

    private static String answer(Ask ask) {
        try {
            return String.valueOf(ask.of());
        } catch (RuntimeException e) {
            return e.getClass().getSimpleName();
        }
    }

    private int wild() {
        int[] odd = {Integer.MIN_VALUE, Integer.MAX_VALUE, -1, 64, 65, 128, 512, 100, 10000, 10001};
        return random.nextInt(8) == 0 ? odd[random.nextInt(odd.length)] : random.nextInt(7) - 1;
    }

    private int kind() {
        int[] often = {0, 2, 3, 80, 81, 81, 48, 48, 48, 45, 41, 44, 46, 42, 33, 31, 30, 34, 20, 21, 37};
        return random.nextInt(4) == 0 ? random.nextInt(102) - 1 : often[random.nextInt(often.length)];
    }

    private void call(Kit kit, String what) {
        int a = wild();
        int b = wild();
        int c = wild();
        int d = wild();
        boolean e = random.nextBoolean();
        boolean f = random.nextBoolean();
        Ask real;
        Ask due;
        switch (random.nextInt(36)) {
            case 0: real = () -> x.signal(a, b, c); due = () -> m.signal(a, b, c); break;
            case 1: real = () -> x.variable(a, b, c); due = () -> m.variable(a, b, c); break;
            case 2: case 3: real = () -> x.process(); due = () -> m.process(); break;
            case 4: real = () -> x.processes(); due = () -> m.processes(); break;
            case 5: real = () -> { x.put(a, e, b, c); return 0; }; due = () -> { m.put(a, e, b, c); return 0; }; break;
            case 6: real = () -> { x.mark(a, e, f); return 0; }; due = () -> { m.mark(a, e, f); return 0; }; break;
            case 7: real = () -> x.get(a, b); due = () -> m.get(a, b); break;
            case 8: real = () -> { x.set(a, b, c, d); return 0; }; due = () -> { m.set(a, b, c, d); return 0; }; break;
            case 9: real = () -> x.variableOf(a, b, c); due = () -> m.variableOf(a, b, c); break;
            case 10: case 11: real = () -> x.resume(a, b); due = () -> m.resume(a, b); break;
            case 12: real = () -> x.holds(a); due = () -> m.holds(a); break;
            case 13: real = () -> x.about(a, b); due = () -> m.about(a, b); break;
            case 14: real = () -> x.waits(a, b); due = () -> m.waits(a, b); break;
            case 15: real = () -> x.until(a); due = () -> m.until(a); break;
            case 16: real = () -> x.acts(); due = () -> m.acts(); break;
            case 17: real = () -> x.act(a, b); due = () -> m.act(a, b); break;
            case 18: real = () -> x.value(a, b, c); due = () -> m.value(a, b, c); break;
            case 19: real = () -> x.delay(a, b); due = () -> m.delay(a, b); break;
            default: {
                int kind = kind();
                int value = random.nextInt(3) == 0 ? wild() : 0;
                int n = random.nextInt(3) == 0 ? wild() : random.nextInt(3);
                real = () -> x.add(kind, value, n);
                due = () -> m.add(kind, value, n);
            }
        }
        kit.same(what, answer(real), answer(due));
    }
}
