import java.util.ArrayList;
import java.util.List;
import java.util.Random;

/** Random runs of calls, the same for StepCode and for the Model: every answer and every exception must be the same. */
public final class RandomRunsTest {
    private static final int RUNS = 6000;
    private final Kit kit;
    private final Random random;
    private final int seed;
    private StepCode x;
    private Model m;
    private final List<int[]> signals = new ArrayList<>();
    private List<int[]> variables = new ArrayList<>();
    private final List<List<int[]>> kept = new ArrayList<>();
    private int calls;
    private static final int[] FAULTS = new int[16];
    private static final int[] STATES = new int[4];
    private static int refused;

    private RandomRunsTest(Kit kit, int seed) {
        this.kit = kit;
        this.seed = seed;
        random = new Random(seed);
    }

    public static void main(String[] args) {
        Kit kit = new Kit("RandomRunsTest");
        for (int seed = 1; seed <= RUNS; seed++) {
            new RandomRunsTest(kit, seed).run();
        }
        for (int fault : new int[] {3, 4, 6, 8, 9, 10, 13, 14, 15}) {
            kit.same("runs come to fault " + fault, FAULTS[fault] > 0 ? 1 : 0, 1);
        }
        for (int state = 1; state <= 3; state++) {
            kit.same("runs come to state " + state, STATES[state] > RUNS / 10 ? 1 : 0, 1);
        }
        kit.same("trees are refused", refused > RUNS / 20 ? 1 : 0, 1);
        kit.end();
    }

    private interface Ask {
        long of();
    }

    private static String answer(Ask ask) {
        try {
            return String.valueOf(ask.of());
        } catch (RuntimeException e) {
            return e.getClass().getSimpleName();
        }
    }

    private String both(String what, Ask real, Ask due) {
        calls++;
        String got = answer(real);
        kit.same("run " + seed + ", call " + calls + ": " + what, got, answer(due));
        return got;
    }

    private int below(int n) {
        return random.nextInt(n);
    }

    private boolean rarely(int oneIn) {
        return below(oneIn) == 0;
    }

    private void run() {
        x = new StepCode();
        m = new Model();
        int many = 1 + below(5);
        for (int i = 0; i < many; i++) {
            object(true);
        }
        int processes = 1 + below(3);
        for (int i = 0; i < processes; i++) {
            process();
        }
        while (calls < 512) {
            call();
        }
    }

    private void object(boolean signal) {
        int is = rarely(60) ? below(6) - 2 : below(3);
        int a = is == 1 ? 1 + below(rarely(4) ? 64 : 5) : is == 2 ? below(12) - 6 : 0;
        int b = is == 2 ? a + below(rarely(4) ? 100000 : 16) : 0;
        if (rarely(60)) {
            a = odd();
            b = odd();
        }
        if (is == 2 && rarely(6)) {
            a = -Kit.BIG;
            b = Kit.BIG;
        }
        int c = a;
        int d = b;
        String got = signal ? both("signal", () -> x.signal(is, c, d), () -> m.signal(is, c, d))
                : both("variable", () -> x.variable(is, c, d), () -> m.variable(is, c, d));
        if (Character.isDigit(got.charAt(0))) {
            (signal ? signals : variables).add(new int[] {is, a, b});
        }
    }

    private int odd() {
        int[] odd = {0, 1, -1, 2, 63, 64, 65, Integer.MIN_VALUE, -Kit.BIG, Kit.BIG, 512, 100};
        return odd[below(odd.length)];
    }

    private void process() {
        variables = new ArrayList<>();
        int many = below(6);
        for (int i = 0; i < many; i++) {
            object(false);
        }
        Kit.Tree tree = statements(3 + below(2), false);
        if (!rarely(4)) {
            tree.kids.add(pause());
        }
        while (rarely(8)) {
            spoil(tree);
        }
        List<Kit.Tree> all = new ArrayList<>();
        tree.collect(all);
        for (Kit.Tree node : all) {
            both("add(" + node.kind + ", " + node.value + ", " + node.kids.size() + ")",
                    () -> x.add(node.kind, node.value, node.kids.size()),
                    () -> m.add(node.kind, node.value, node.kids.size()));
        }
        String got = both("process()", () -> x.process(), () -> m.process());
        if (Character.isDigit(got.charAt(0))) {
            kept.add(variables);
        } else {
            refused++;
        }
        both("processes()", () -> x.processes(), () -> m.processes());
    }

    private void spoil(Kit.Tree tree) {
        List<Kit.Tree> all = new ArrayList<>();
        tree.collect(all);
        Kit.Tree node = all.get(below(all.size()));
        switch (below(5)) {
            case 0:
                node.kind = below(100);
                break;
            case 1:
                node.value = rarely(2) ? odd() : below(90);
                break;
            case 2:
                if (!node.kids.isEmpty()) {
                    node.kids.remove(below(node.kids.size()));
                }
                break;
            case 3:
                node.kids.add(below(node.kids.size() + 1), rarely(2) ? expression(below(3), 3, 1) : statement(1, true));
                break;
            default:
                if (!node.kids.isEmpty()) {
                    node.kids.set(below(node.kids.size()), all.get(below(all.size())).kids.contains(node)
                            ? Kit.nothing() : rarely(2) ? Kit.list() : expression(below(3), 2, 1));
                }
        }
    }

    // ---- trees

    private Kit.Tree statements(int depth, boolean inLoop) {
        Kit.Tree list = Kit.list();
        int many = below(4) + (depth > 2 ? 1 : 0);
        for (int i = 0; i < many; i++) {
            list.kids.add(statement(depth, inLoop));
        }
        return list;
    }

    private Kit.Tree statement(int depth, boolean inLoop) {
        int sort = below(depth > 0 ? 17 : 9);
        switch (sort) {
            case 0: case 1: case 2:
                return assign();
            case 3: case 4: case 5:
                return let();
            case 6:
                return rarely(3) ? pause() : Kit.report(expression(2, 0, 2));
            case 7:
                return Kit.check(expression(2, 0, 2), expression(2, 0, 2));
            case 8:
                if (inLoop) {
                    return Kit.t(42 + below(2), 0, rarely(4) ? Kit.nothing() : expression(2, 0, 2));
                }
                return Kit.skip();
            case 9: case 10: case 11: {
                Kit.Tree made = Kit.choose();
                int pairs = 1 + below(3);
                for (int i = 0; i < pairs; i++) {
                    made.kids.add(expression(2, 0, 2));
                    made.kids.add(statements(depth - 1, inLoop));
                }
                if (rarely(2)) {
                    made.kids.add(statements(depth - 1, inLoop));
                }
                return made;
            }
            case 12: case 13:
                return cases(depth, inLoop);
            case 14:
                return Kit.t(40, 0, expression(2, 0, 2), statements(depth - 1, true));
            case 15:
                return Kit.t(41, 0, statements(depth - 1, true));
            default: {
                int counter = pick(variables, 2);
                if (counter < 0) {
                    return Kit.skip();
                }
                Kit.Tree from = rarely(2) ? expression(2, 0, 1) : Kit.num(within(variables.get(counter)));
                Kit.Tree to = rarely(2) ? expression(2, 0, 1) : Kit.num(within(variables.get(counter)));
                return Kit.t(38 + below(2), 0, Kit.var(counter), from, to, statements(depth - 1, true));
            }
        }
    }

    private int within(int[] of) {
        long span = Math.min((long) of[2] - of[1] + 1, 10);
        return of[1] + below((int) span);
    }

    private Kit.Tree cases(int depth, boolean inLoop) {
        int is = below(3);
        int n = 1 + below(3);
        Kit.Tree made = Kit.cases(expression(is, n, 2));
        int many = 1 + below(3);
        for (int i = 0; i < many; i++) {
            Kit.Tree list = Kit.list();
            int items = 1 + below(4);
            for (int j = 0; j < items; j++) {
                list.kids.add(rarely(20) ? literal(below(3), 2) : literal(is, n));
            }
            if (rarely(4)) {
                list.kids.add(below(list.kids.size() + 1), Kit.others());
            }
            made.kids.add(Kit.t(36, 0, list, statements(depth - 1, inLoop)));
        }
        if (!rarely(4)) {
            made.kids.add(Kit.t(36, 0, Kit.list(Kit.others()), statements(depth - 1, inLoop)));
        }
        return made;
    }

    private int pick(List<int[]> from, int is) {
        List<Integer> fit = new ArrayList<>();
        for (int i = 0; i < from.size(); i++) {
            if (is < 0 || from.get(i)[0] == is) {
                fit.add(i);
            }
        }
        return fit.isEmpty() ? -1 : fit.get(below(fit.size()));
    }

    /** A target and, in 'wants', the class and the length of what it takes. */
    private Kit.Tree target(boolean signal, int[] wants) {
        List<int[]> from = signal ? signals : variables;
        int which = pick(from, -1);
        if (which < 0) {
            return null;
        }
        int[] of = from.get(which);
        Kit.Tree tree = signal ? Kit.sig(which) : Kit.var(which);
        wants[0] = of[0];
        wants[1] = of[1];
        if (of[0] == 1 && rarely(3)) {
            wants[0] = 0;
            return Kit.elem(tree, rarely(2) ? Kit.num(below(of[1])) : expression(2, 0, 2));
        }
        if (of[0] == 1 && rarely(3)) {
            int first = below(of[1]);
            wants[1] = 1 + below(of[1] - first);
            return Kit.part(tree, first, wants[1]);
        }
        return tree;
    }

    private Kit.Tree let() {
        int[] wants = new int[2];
        Kit.Tree target = target(false, wants);
        if (target == null) {
            return Kit.skip();
        }
        int[] of = target.kind == 81 ? variables.get(target.value) : null;
        boolean tame = of != null && of[0] == 2 && !rarely(4);
        return Kit.let(target, tame ? Kit.num(within(of)) : expression(wants[0], wants[1], 3));
    }

    private Kit.Tree time(int least) {
        int[] units = {1, 1000, 1000000};
        int unit = units[rarely(5) ? below(3) : 0];
        return Kit.time(unit, rarely(12) ? expression(2, 0, 2) : Kit.num(least + below(4)));
    }

    private Kit.Tree assign() {
        int[] wants = new int[2];
        Kit.Tree target = target(true, wants);
        if (target == null) {
            return Kit.skip();
        }
        int mode = below(3);
        Kit.Tree made = Kit.assign(mode, target);
        if (mode == 2) {
            made.kids.add(time(0));
        }
        int many = rarely(3) ? 1 + below(rarely(8) ? 16 : 4) : 1;
        int[] of = target.kind == 80 ? signals.get(target.value) : null;
        for (int w = 0; w < many; w++) {
            boolean tame = of != null && of[0] == 2 && !rarely(4);
            Kit.Tree value = tame ? Kit.num(within(of)) : expression(wants[0], wants[1], 2);
            made.kids.add(Kit.t(31, 0, value, many == 1 && rarely(2) ? Kit.nothing() : time(4 * w + mode)));
        }
        return made;
    }

    private Kit.Tree pause() {
        Kit.Tree list = Kit.list();
        while (!signals.isEmpty() && rarely(2)) {
            list.kids.add(Kit.sig(below(signals.size())));
        }
        return Kit.pause(list, rarely(2) ? Kit.nothing() : expression(rarely(20) ? 0 : 2, 1, 3),
                rarely(2) ? Kit.nothing() : time(0));
    }

    private Kit.Tree literal(int is, int n) {
        if (is == 2) {
            return Kit.num(rarely(12) ? Kit.BIG - below(2) : rarely(12) ? -Kit.BIG + below(2) : below(9) - 2);
        }
        if (is == 0) {
            return Kit.t(3, rarely(2) ? below(9) : 2 + below(2));
        }
        Kit.Tree row = Kit.t(4, 0);
        boolean clear = !rarely(3);
        int[] codes = {2, 3, 6, 7};
        for (int i = 0; i < n; i++) {
            row.kids.add(Kit.t(3, clear ? codes[below(rarely(3) ? 4 : 2)] : below(9)));
        }
        return row;
    }

    private Kit.Tree object(int is, int n) {
        boolean signal = rarely(2);
        List<int[]> from = signal ? signals : variables;
        int which = pick(from, is);
        if (which < 0 || is == 1 && from.get(which)[1] < n) {
            return literal(is, Math.min(Math.max(n, 1), 5));
        }
        Kit.Tree tree = signal ? Kit.sig(which) : Kit.var(which);
        int length = from.get(which)[1];
        if (is == 1 && length != n) {
            return Kit.part(tree, below(length - n + 1), n);
        }
        return signal && rarely(4) ? Kit.t(85, 17, tree) : tree;
    }

    private Kit.Tree expression(int wanted, int wantedLength, int depth) {
        int is = rarely(40) ? below(3) : wanted;
        int n = Math.max(1, rarely(40) ? 1 + below(4) : wantedLength);
        if (depth == 0 || rarely(4)) {
            return rarely(2) ? literal(is, n) : object(is, n);
        }
        return is == 2 ? numberTree(depth - 1) : is == 0 ? logicTree(depth - 1) : rowTree(n, depth - 1);
    }

    private Kit.Tree numberTree(int depth) {
        switch (below(9)) {
            case 0:
                return Kit.one(below(4), expression(2, 0, depth));
            case 1: case 2: case 3: {
                int[] ops = {12, 13, 15, 16, 17, 18, 0, 1, 2, 3, 4, 5};
                return Kit.two(ops[below(ops.length)], expression(2, 0, depth), expression(2, 0, depth));
            }
            case 4:
                return Kit.two(6 + below(6), expression(2, 0, depth), expression(2, 0, depth));
            case 5: {
                int is = below(2);
                int n = 1 + below(4);
                int op = is == 0 ? 6 + below(2) : 6 + below(6);
                return Kit.two(op, expression(is, n, depth), expression(is, n, depth));
            }
            case 6: {
                int which = pick(signals, 0);
                return which < 0 ? literal(2, 0) : Kit.t(84, 8 + below(2), Kit.sig(which));
            }
            case 7:
                return signals.isEmpty() ? literal(2, 0)
                        : Kit.t(85, 15 + below(2), Kit.sig(below(signals.size())));
            default:
                return Kit.t(84, 10, expression(1, rarely(4) ? 31 + below(3) : 1 + below(5), depth));
        }
    }

    private Kit.Tree logicTree(int depth) {
        switch (below(3)) {
            case 0:
                return Kit.one(0, expression(0, 1, depth));
            case 1:
                return Kit.two(below(6), expression(0, 1, depth), expression(0, 1, depth));
            default: {
                boolean signal = rarely(2);
                int which = pick(signal ? signals : variables, 1);
                if (which < 0) {
                    return literal(0, 1);
                }
                int length = (signal ? signals : variables).get(which)[1];
                return Kit.elem(signal ? Kit.sig(which) : Kit.var(which),
                        rarely(3) ? expression(2, 0, depth) : Kit.num(below(length)));
            }
        }
    }

    private Kit.Tree rowTree(int n, int depth) {
        switch (below(7)) {
            case 0:
                return Kit.one(0, expression(1, n, depth));
            case 1:
                return Kit.two(below(6), expression(1, n, depth), expression(1, n, depth));
            case 2:
                return Kit.two(12 + below(2), expression(1, n, depth), expression(rarely(2) ? 1 : 2, n, depth));
            case 3:
                return Kit.two(12 + below(2), expression(2, n, depth), expression(1, n, depth));
            case 4: {
                if (n == 1) {
                    return Kit.t(84, 11, expression(2, 0, depth), Kit.num(n));
                }
                int left = 1 + below(n - 1);
                return Kit.two(14, expression(left == 1 ? below(2) : 1, left, depth),
                        expression(n - left == 1 ? below(2) : 1, n - left, depth));
            }
            case 5:
                return Kit.two(19 + below(2), expression(1, n, depth), expression(2, 0, depth));
            default:
                return Kit.t(84, 11, expression(2, 0, depth), Kit.num(n));
        }
    }

    // ---- calls

    private void call() {
        int process = rarely(20) ? odd() : below(Math.max(1, kept.size()));
        int i = rarely(20) ? odd() : below(Math.max(1, x.acts()));
        int w = rarely(2) ? 0 : rarely(5) ? odd() : below(5) - 1;
        int k = rarely(10) ? odd() : rarely(2) ? 0 : below(8);
        switch (below(14)) {
            case 0: case 1: {
                int which = rarely(20) ? odd() : below(signals.size() + 1);
                boolean last = rarely(2);
                int value = rarely(10) ? odd() : below(9);
                both("put", () -> { x.put(which, last, k, value); return 0; },
                        () -> { m.put(which, last, k, value); return 0; });
                break;
            }
            case 2: {
                int which = rarely(20) ? odd() : below(signals.size() + 1);
                boolean event = !rarely(3);
                boolean active = !rarely(3);
                both("mark", () -> { x.mark(which, event, active); return 0; },
                        () -> { m.mark(which, event, active); return 0; });
                break;
            }
            case 3: {
                int which = rarely(20) ? odd() : below(signals.size() + 1);
                both("get", () -> x.get(which, k), () -> m.get(which, k));
                break;
            }
            case 4: {
                int which = rarely(20) ? odd() : below(6);
                int value = rarely(10) ? odd() : below(9);
                both("set", () -> { x.set(process, which, k, value); return 0; },
                        () -> { m.set(process, which, k, value); return 0; });
                break;
            }
            case 5: case 6: case 7:
                resume(process);
                break;
            case 8: {
                String got = both("holds", () -> x.holds(process), () -> m.holds(process));
                if (got.equals("2")) {
                    look(process);
                }
                break;
            }
            case 9: {
                int what = rarely(10) ? odd() : below(7) - 1;
                both("about", () -> x.about(process, what), () -> m.about(process, what));
                break;
            }
            case 10:
                both("waits", () -> x.waits(process, k), () -> m.waits(process, k));
                break;
            case 11: {
                int what = rarely(10) ? odd() : below(7) - 1;
                both("act", () -> x.act(i, what), () -> m.act(i, what));
                break;
            }
            case 12:
                both("value", () -> x.value(i, w, k), () -> m.value(i, w, k));
                break;
            default:
                both("delay", () -> x.delay(i, w), () -> m.delay(i, w));
        }
    }

    private void resume(int process) {
        int steps = rarely(20) ? odd() : rarely(6) ? 10000 + below(2) : rarely(4) ? 1 + below(9) : 1 + below(300);
        String got = both("resume(" + process + ", " + steps + ")", () -> x.resume(process, steps),
                () -> m.resume(process, steps));
        if (!Character.isDigit(got.charAt(0))) {
            return;
        }
        STATES[got.charAt(0) - '0']++;
        FAULTS[x.about(process, 1)]++;
        look(process);
        for (int v = 0; v < kept.get(process).size(); v++) {
            for (int k = 0; k < 6; k++) {
                int a = v;
                int b = k;
                kit.same("run " + seed + ", call " + calls + ": variableOf " + v,
                        answer(() -> x.variableOf(process, a, b)), answer(() -> m.variableOf(process, a, b)));
            }
        }
        kit.same("run " + seed + ", call " + calls + ": acts", x.acts(), m.acts());
        for (int i = 0; i < x.acts() && i < m.acts(); i++) {
            act(i);
        }
    }

    private void look(int process) {
        for (int what = 0; what <= 5; what++) {
            kit.same("run " + seed + ", call " + calls + ": about " + what, x.about(process, what),
                    m.about(process, what));
        }
        kit.same("run " + seed + ", call " + calls + ": until", x.until(process), m.until(process));
        for (int i = 0; i < x.about(process, 3); i++) {
            kit.same("run " + seed + ", call " + calls + ": waits " + i, x.waits(process, i), m.waits(process, i));
        }
    }

    private void act(int i) {
        String at = "run " + seed + ", call " + calls + ": act " + i;
        for (int what = 0; what <= 5; what++) {
            kit.same(at + ", " + what, x.act(i, what), m.act(i, what));
        }
        for (int w = -1; w <= x.act(i, 5); w++) {
            int v = w;
            kit.same(at + ", delay " + w, answer(() -> x.delay(i, v)), answer(() -> m.delay(i, v)));
            for (int k = 0; k <= x.act(i, 3); k++) {
                int e = k;
                kit.same(at + ", value " + w + " " + k, answer(() -> x.value(i, v, e)), answer(() -> m.value(i, v, e)));
            }
        }
    }
}
