/** The edges that the document's terms of VALUES and OBJECTS name, sentence by sentence. */
public final class EdgesOfValuesTest {
    private static final int BIG = Kit.BIG;
    private static final int BEYOND = Integer.MIN_VALUE;
    private static Kit kit;

    public static void main(String[] args) {
        kit = new Kit("EdgesOfValuesTest");
        calls();
        longestCalls();
        numbers();
        truths();
        logics();
        rows();
        weights();
        clearRows();
        numbersOfSignals();
        numbersOfVariables();
        ranges();
        atFirst();
        ofSignals();
        kit.end();
    }

    private static void calls() {
        kit.says("What it is", "An object is used for at most 512 calls after it has been made");
        StepCode x = new StepCode();
        for (int i = 0; i < 512; i++) {
            kit.same("call " + (i + 1), x.signal(i % 3, i % 3 == 0 ? 0 : i % 64 + 1, i % 3 == 2 ? 64 : 0), i);
        }
        StepCode y = new StepCode();
        for (int i = 0; i < 511; i++) {
            y.add(2, i, 0);
        }
        kit.same("511 nodes, no LIST", y.process(), -511);
        StepCode z = new StepCode();
        for (int i = 0; i < 510; i++) {
            z.add(45, 0, 0);
        }
        kit.same("a LIST of 510", z.add(48, 0, 510), 510);
        kit.same("call 512", z.process(), 0);
    }

    /** 500 resumptions with all steps that they may have. */
    private static void longestCalls() {
        StepCode x = new StepCode();
        x.variable(2, 1, 9998);
        kit.same("process", Kit.make(x, Kit.up(Kit.var(0), Kit.num(1), Kit.num(9996)), Kit.pause()), 0);
        for (int i = 0; i < 500; i++) {
            kit.same("resumption " + i, x.resume(0, 10000), StepCode.WAITS);
        }
        kit.same("steps", x.about(0, 5), 500 * (1 + 1 + 9997 + 1));
    }

    private static void numbers() {
        kit.says("Terms", "NUMBER (-2147483647 .. 2147483647;");
        StepCode x = new StepCode();
        kit.same("all of them", x.signal(2, -2147483647, 2147483647), 0);
        kit.fails("one below", Kit.ARGUMENT, () -> x.signal(2, BEYOND, 0));
        for (int n : new int[] {-2147483647, -2147483646, -1, 0, 1, 2147483646, 2147483647}) {
            x.put(0, false, 0, n);
            kit.same("a signal's", x.get(0, 0), n);
            kit.same("a node's", Kit.make(x, Kit.report(Kit.num(n)), Kit.pause()), x.processes() - 1);
            x.resume(x.processes() - 1, 9);
            kit.same("a report's", x.act(0, 1), n);
        }
        kit.fails("one below, put", Kit.ARGUMENT, () -> x.put(0, false, 0, BEYOND));
        kit.same("one below, as a node", Kit.make(x, Kit.report(Kit.num(BEYOND)), Kit.pause()), -1);
    }

    private static void truths() {
        kit.says("Terms", "as a truth: 0 is false, others are true, answers are 0 or 1)");
        for (int n : new int[] {-BIG, -2, -1, 0, 1, 2, BIG}) {
            StepCode x = new StepCode();
            Kit.make(x, Kit.choose(Kit.num(n), Kit.list(Kit.report(Kit.num(5))), Kit.list(Kit.report(Kit.num(6)))),
                    Kit.report(Kit.one(0, Kit.num(n))), Kit.report(Kit.two(0, Kit.num(n), Kit.num(BIG))),
                    Kit.report(Kit.two(1, Kit.num(0), Kit.num(n))), Kit.report(Kit.two(4, Kit.num(n), Kit.num(-3))),
                    Kit.report(Kit.two(8, Kit.num(n), Kit.num(0))), Kit.pause(Kit.list(), Kit.num(n), Kit.nothing()));
            x.resume(0, 99);
            boolean is = n != 0;
            kit.same(n + " as a truth", Kit.reports(x), (is ? "5 0 1 1 0" : "6 1 0 0 1") + (n < 0 ? " 1" : " 0"));
            kit.same(n + " of a WAIT", x.holds(0), is ? 1 : 0);
        }
    }

    private static void logics() {
        kit.says("Terms", "LOGIC (0 .. 8: U, X, ZERO, ONE, Z, W, L, H, FREE)");
        for (int code = -2; code <= 10; code++) {
            int n = code;
            StepCode x = new StepCode();
            x.signal(0, 0, 0);
            x.signal(1, 64, 0);
            if (n >= 0 && n <= 8) {
                x.put(0, false, 0, n);
                x.put(1, false, 63, n);
                kit.same("LOGIC", x.get(0, 0), n);
                kit.same("an element", x.get(1, 63), n);
                kit.same("a node", Kit.make(x, Kit.report(Kit.two(6, Kit.t(3, n), Kit.sig(0))), Kit.pause()), 0);
                x.resume(0, 9);
                kit.same("the same", Kit.reports(x), "1");
            } else {
                kit.fails("LOGIC " + n, Kit.ARGUMENT, () -> x.put(0, false, 0, n));
                kit.fails("an element " + n, Kit.ARGUMENT, () -> x.put(1, false, 63, n));
                kit.same("a node " + n, Kit.make(x, Kit.report(Kit.t(3, n))), -1);
            }
        }
    }

    private static void rows() {
        kit.says("Terms", "a ROW of n elements of LOGIC (1 .. 64), element k from the right");
        for (int n : new int[] {1, 2, 63, 64}) {
            StepCode x = new StepCode();
            x.signal(1, n, 0);
            x.variable(1, n, 0);
            String text = "01XZLHW-U".repeat(8).substring(0, n);
            kit.same("a row of " + n, Kit.make(x, Kit.let(Kit.var(0), Kit.row(text)), Kit.pause()), 0);
            x.resume(0, 9);
            for (int k = 0; k < n; k++) {
                int due = Kit.CODES.indexOf(text.charAt(n - 1 - k));
                kit.same("element " + k + " of " + n, x.variableOf(0, 0, k), due);
            }
            kit.fails("element " + n, Kit.INDEX, () -> x.variableOf(0, 0, n));
            kit.fails("element -1", Kit.INDEX, () -> x.get(0, -1));
        }
        StepCode y = new StepCode();
        kit.fails("a row of 0", Kit.ARGUMENT, () -> y.signal(1, 0, 0));
        kit.fails("a row of 65", Kit.ARGUMENT, () -> y.variable(1, 65, 0));
        kit.same("a ROW of 65", Kit.make(y, Kit.report(Kit.row("0".repeat(65)))), -1 - 65);
        kit.same("a ROW of 0", Kit.make(y, Kit.report(Kit.t(4, 0))), -1);
    }

    private static void weights() {
        kit.says("Terms", "element k from the right being of the weight 2^k");
        for (int k = 0; k < 64; k++) {
            String text = "0".repeat(63 - k) + "1" + "0".repeat(k);
            kit.same("the weight of " + k, Tried.found(Kit.t(84, 10, Kit.row(text))),
                    k < 31 ? String.valueOf(1 << k) : "fault 9");
            String below = "L".repeat(64 - k) + "H".repeat(k);
            kit.same(k + " is above all below it", Tried.found(Kit.two(10, Kit.row(text), Kit.row(below))), "1");
            kit.same("and one more", Tried.found(Kit.two(12, Kit.row(below), Kit.num(1))), "[" + text + "]");
        }
    }

    private static void clearRows() {
        kit.says("Terms", "A row is CLEAR when all elements are ZERO, ONE, L, H; then its number is the sum of the "
                + "weights of ONEs and Hs.");
        for (int n : new int[] {1, 2, 31, 33, 64}) {
            for (char c : Kit.CODES.toCharArray()) {
                boolean clear = "01LH".indexOf(c) >= 0;
                for (int k : new int[] {0, n / 2, n - 1}) {
                    String text = "0".repeat(n - 1 - k) + c + "0".repeat(k);
                    boolean set = c == '1' || c == 'H';
                    String due = !clear ? "fault 9" : !set ? "0" : k > 30 ? "fault 9" : String.valueOf(1 << k);
                    kit.same(text, Tried.found(Kit.t(84, 10, Kit.row(text))), due);
                    String sum = clear ? "0".repeat(n - 1 - k) + (set ? "1" : "0") + "0".repeat(k) : "X".repeat(n);
                    kit.same(text + " and 0", Tried.found(Kit.two(12, Kit.row(text), Kit.num(0))), "[" + sum + "]");
                }
            }
        }
        kit.same("all of 31", Tried.found(Kit.t(84, 10, Kit.row("1H".repeat(15) + "1"))), "2147483647");
        kit.same("Ls alone", Tried.found(Kit.t(84, 10, Kit.row("L".repeat(64)))), "0");
    }

    private static void numbersOfSignals() {
        kit.says("Terms", "SIGNALS, numbered from 0 on, for all processes");
        StepCode x = new StepCode();
        kit.same("the first", x.signal(2, 3, 9), 0);
        kit.same("process", Kit.make(x, Kit.report(Kit.sig(0)), Kit.pause()), 0);
        kit.same("the next", x.signal(2, 4, 9), 1);
        kit.same("process", Kit.make(x, Kit.report(Kit.sig(0)), Kit.report(Kit.sig(1)), Kit.pause()), 1);
        x.put(0, false, 0, 8);
        x.resume(0, 9);
        kit.same("seen by one", Kit.reports(x), "8");
        x.resume(1, 9);
        kit.same("seen by the other", Kit.reports(x), "8 4");
        Kit.make(x, Kit.report(Kit.t(99, 0)));
        kit.same("also behind what is no process", x.signal(0, 0, 0), 2);
    }

    private static void numbersOfVariables() {
        kit.says("Terms", "VARIABLES, numbered from 0 on in each process");
        StepCode x = new StepCode();
        for (int p = 0; p < 3; p++) {
            for (int v = 0; v <= p; v++) {
                kit.same("variable", x.variable(2, 10 * p + v, 99), v);
            }
            kit.same("process", Kit.make(x, Kit.let(Kit.var(0), Kit.num(50 + p)), Kit.pause()), p);
        }
        x.resume(1, 9);
        kit.same("its own is set", x.variableOf(1, 0, 0), 51);
        kit.same("not that of the one before", x.variableOf(0, 0, 0), 0);
        kit.same("nor that of the one behind", x.variableOf(2, 0, 0), 20);
        kit.same("nor its next one", x.variableOf(1, 1, 0), 11);
        for (int p = 0; p < 3; p++) {
            int of = p;
            kit.same("the last one", x.variableOf(of, of, 0), 11 * of);
            kit.fails("one more", Kit.INDEX, () -> x.variableOf(of, of + 1, 0));
        }
    }

    private static void ranges() {
        kit.says("Terms", "Each is of LOGIC, of rows of n, or of NUMBERs from a least to a greatest one.");
        int[][] ranges = {{0, 0}, {-1, 1}, {5, 6}, {-BIG, -BIG}, {BIG, BIG}, {-BIG, BIG}, {-9, -8}};
        for (int[] r : ranges) {
            StepCode x = new StepCode();
            x.signal(2, r[0], r[1]);
            x.variable(2, r[0], r[1]);
            Kit.make(x, Kit.pause());
            for (long n : new long[] {r[0] - 1L, r[0], r[1], r[1] + 1L}) {
                int to = (int) n;
                if (to >= r[0] && to <= r[1]) {
                    x.put(0, true, 0, to);
                    x.put(0, false, 0, to);
                    x.set(0, 0, 0, to);
                    kit.same("a signal", x.get(0, 0), to);
                    kit.same("a variable", x.variableOf(0, 0, 0), to);
                } else {
                    kit.fails("a last value " + to, Kit.ARGUMENT, () -> x.put(0, true, 0, to));
                    kit.fails("a signal " + to, Kit.ARGUMENT, () -> x.put(0, false, 0, to));
                    kit.fails("a variable " + to, Kit.ARGUMENT, () -> x.set(0, 0, 0, to));
                }
            }
        }
    }

    private static void atFirst() {
        kit.says("Terms", "At first LOGIC and all elements are U, NUMBERs the least.");
        StepCode x = new StepCode();
        x.signal(0, 0, 0);
        x.signal(1, 64, 0);
        x.signal(2, -BIG, 7);
        x.variable(0, 0, 0);
        x.variable(1, 64, 0);
        x.variable(2, 6, BIG);
        Kit.make(x, Kit.pause());
        kit.same("a signal of LOGIC", x.get(0, 0), 0);
        kit.same("a signal of NUMBERs", x.get(2, 0), -BIG);
        kit.same("a variable of LOGIC", x.variableOf(0, 0, 0), 0);
        kit.same("a variable of NUMBERs", x.variableOf(0, 2, 0), 6);
        for (int k = 0; k < 64; k++) {
            kit.same("a signal's element " + k, x.get(1, k), 0);
            kit.same("a variable's element " + k, x.variableOf(0, 1, k), 0);
        }
    }

    private static void ofSignals() {
        kit.says("Terms", "A signal also has a LAST VALUE, and may have an EVENT, and be ACTIVE, as is told.");
        StepCode x = new StepCode();
        x.signal(2, -4, 9);
        x.signal(1, 2, 0);
        Kit.make(x, Kit.report(Kit.t(85, 15, Kit.sig(0))), Kit.report(Kit.t(85, 16, Kit.sig(0))),
                Kit.report(Kit.t(85, 17, Kit.sig(0))), Kit.report(Kit.sig(0)),
                Kit.report(Kit.two(6, Kit.t(85, 17, Kit.sig(1)), Kit.row("UU"))), Kit.pause());
        x.resume(0, 9);
        kit.same("at first", Kit.reports(x), "0 0 -4 -4 1");
        x.put(0, false, 0, 5);
        x.resume(0, 9);
        kit.same("its value alone", Kit.reports(x), "0 0 -4 5 1");
        x.put(0, true, 0, 9);
        x.mark(0, true, true);
        x.resume(0, 9);
        kit.same("all", Kit.reports(x), "1 1 9 5 1");
        x.put(1, true, 1, 3);
        x.mark(0, false, true);
        x.resume(0, 9);
        kit.same("a row's last value", Kit.reports(x), "0 1 9 5 0");
    }
}
