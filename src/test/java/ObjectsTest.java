/** Signals and variables: promises 2, 3, 7, 8, 9, 10, 11. */
public final class ObjectsTest {
    private static final int LEAST = -Kit.BIG;
    private static final int BEYOND = Integer.MIN_VALUE;

    public static void main(String[] args) {
        Kit kit = new Kit("ObjectsTest");
        for (int signal = 0; signal <= 1; signal++) {
            classes(kit, signal == 1);
        }
        manySignals(kit);
        manyVariables(kit);
        variablesOfEachProcess(kit);
        signalValues(kit);
        rowsOf64(kit);
        variableValues(kit);
        kit.end();
    }

    private static int object(StepCode x, boolean signal, int is, int a, int b) {
        return signal ? x.signal(is, a, b) : x.variable(is, a, b);
    }

    private static void classes(Kit kit, boolean signal) {
        StepCode x = new StepCode();
        int[][] wrong = {
            {-1, 0, 0}, {3, 0, 0}, {Kit.BIG, 0, 0}, {0, 1, 0}, {0, 0, 1}, {0, -1, 0}, {1, 0, 0}, {1, 65, 0},
            {1, -1, 0}, {1, 4, 1}, {1, 4, -1}, {1, BEYOND, 0}, {2, 1, 0}, {2, BEYOND, 0}, {2, BEYOND, BEYOND},
            {2, 0, BEYOND}, {2, Kit.BIG, LEAST}};
        for (int[] w : wrong) {
            kit.fails((signal ? "signal " : "variable ") + w[0] + " " + w[1] + " " + w[2], Kit.ARGUMENT,
                    () -> object(x, signal, w[0], w[1], w[2]));
        }
        int[][] right = {{0, 0, 0}, {1, 1, 0}, {1, 64, 0}, {2, 0, 0}, {2, LEAST, Kit.BIG}, {2, LEAST, LEAST},
            {2, Kit.BIG, Kit.BIG}, {2, -5, 5}};
        for (int i = 0; i < right.length; i++) {
            kit.same("object " + i, object(x, signal, right[i][0], right[i][1], right[i][2]), i);
        }
    }

    private static void manySignals(Kit kit) {
        StepCode x = new StepCode();
        for (int i = 0; i < 511; i++) {
            x.signal(i % 2, i % 2, 0);
        }
        kit.same("the last of 512 signals", x.signal(2, 1, 3), 511);
        kit.fails("one signal more, wrong", Kit.ARGUMENT, () -> x.signal(7, 0, 0));
        kit.fails("one signal more", Kit.STATE, () -> x.signal(0, 0, 0));
        kit.same("the last one's value", x.get(511, 0), 1);
    }

    private static void manyVariables(Kit kit) {
        StepCode x = new StepCode();
        for (int i = 0; i < 127; i++) {
            x.variable(0, 0, 0);
        }
        kit.same("the last of 128 variables", x.variable(2, 7, 8), 127);
        kit.fails("one variable more, wrong", Kit.ARGUMENT, () -> x.variable(1, 0, 0));
        kit.fails("one variable more", Kit.STATE, () -> x.variable(0, 0, 0));
        kit.same("process", Kit.make(x, Kit.pause()), 0);
        kit.same("its last variable", x.variableOf(0, 127, 0), 7);
        kit.fails("it has no variable 128", Kit.INDEX, () -> x.variableOf(0, 128, 0));
        kit.same("a variable of the next process", x.variable(0, 0, 0), 0);
    }

    private static void variablesOfEachProcess(Kit kit) {
        StepCode x = new StepCode();
        x.variable(2, 3, 9);
        kit.same("process 0", Kit.make(x, Kit.pause()), 0);
        x.variable(2, 4, 9);
        x.variable(2, 5, 9);
        kit.same("process 1", Kit.make(x, Kit.pause()), 1);
        kit.same("process 2", Kit.make(x, Kit.pause()), 2);
        x.set(1, 0, 0, 8);
        kit.same("0, 0", x.variableOf(0, 0, 0), 3);
        kit.same("1, 0", x.variableOf(1, 0, 0), 8);
        kit.same("1, 1", x.variableOf(1, 1, 0), 5);
        kit.fails("0, 1", Kit.INDEX, () -> x.variableOf(0, 1, 0));
        kit.fails("2, 0", Kit.INDEX, () -> x.variableOf(2, 0, 0));
        kit.fails("3, 0", Kit.INDEX, () -> x.variableOf(3, 0, 0));
        kit.fails("-1, 0", Kit.INDEX, () -> x.variableOf(-1, 0, 0));
    }

    private static void signalValues(Kit kit) {
        StepCode x = new StepCode();
        x.signal(0, 0, 0);
        x.signal(1, 3, 0);
        x.signal(2, -2, 5);
        kit.same("LOGIC at first", x.get(0, 0), 0);
        kit.same("a row at first", x.get(1, 2), 0);
        kit.same("a NUMBER at first", x.get(2, 0), -2);
        for (int code = 0; code <= 8; code++) {
            x.put(0, false, 0, code);
            kit.same("LOGIC " + code, x.get(0, 0), code);
            x.put(1, false, 1, code);
            kit.same("element " + code, x.get(1, 1), code);
        }
        kit.same("its neighbours stay", x.get(1, 0) + x.get(1, 2), 0);
        for (int n = -2; n <= 5; n++) {
            x.put(2, false, 0, n);
            kit.same("NUMBER " + n, x.get(2, 0), n);
        }
        x.put(2, true, 0, 1);
        kit.same("the last value is another one", x.get(2, 0), 5);
        int[][] places = {{-1, 0}, {3, 0}, {BEYOND, 0}, {0, 1}, {0, -1}, {1, 3}, {1, -1}, {2, 1}, {2, -1}, {1, 64}};
        for (int[] at : places) {
            kit.fails("get " + at[0] + " " + at[1], Kit.INDEX, () -> x.get(at[0], at[1]));
            kit.fails("put " + at[0] + " " + at[1], Kit.INDEX, () -> x.put(at[0], false, at[1], 99));
            kit.fails("put last " + at[0] + " " + at[1], Kit.INDEX, () -> x.put(at[0], true, at[1], 2));
        }
        int[][] wrong = {{0, 0, -1}, {0, 0, 9}, {1, 2, 9}, {1, 2, -1}, {2, 0, -3}, {2, 0, 6}, {2, 0, BEYOND}};
        for (int[] w : wrong) {
            kit.fails("put " + w[0] + " " + w[2], Kit.ARGUMENT, () -> x.put(w[0], false, w[1], w[2]));
            kit.fails("put last " + w[0] + " " + w[2], Kit.ARGUMENT, () -> x.put(w[0], true, w[1], w[2]));
        }
        kit.same("nothing has changed", x.get(0, 0) * 100 + x.get(1, 1) * 10 + x.get(2, 0), 885);
        kit.fails("mark -1", Kit.INDEX, () -> x.mark(-1, true, true));
        kit.fails("mark 3", Kit.INDEX, () -> x.mark(3, true, true));
        markIsSeen(kit);
    }

    private static void markIsSeen(Kit kit) {
        StepCode x = new StepCode();
        x.signal(0, 0, 0);
        x.signal(2, 4, 9);
        Kit.make(x, Kit.report(Kit.t(85, 15, Kit.sig(0))), Kit.report(Kit.t(85, 16, Kit.sig(0))),
                Kit.report(Kit.t(85, 15, Kit.sig(1))), Kit.report(Kit.t(85, 16, Kit.sig(1))),
                Kit.report(Kit.t(85, 17, Kit.sig(1))), Kit.pause());
        x.resume(0, 100);
        kit.same("at first", Kit.reports(x), "0 0 0 0 4");
        x.mark(0, true, false);
        x.mark(1, false, true);
        x.put(1, true, 0, 6);
        x.resume(0, 100);
        kit.same("marked", Kit.reports(x), "1 0 0 1 6");
        x.mark(0, false, false);
        x.mark(1, true, true);
        x.resume(0, 100);
        kit.same("marked again", Kit.reports(x), "0 0 1 1 6");
    }

    private static void rowsOf64(Kit kit) {
        StepCode x = new StepCode();
        x.signal(1, 64, 0);
        x.variable(1, 64, 0);
        Kit.make(x, Kit.pause());
        for (int k = 0; k < 64; k++) {
            x.put(0, false, k, (k * 7 + 3) % 9);
            x.set(0, 0, k, (k * 5 + 1) % 9);
        }
        for (int k = 0; k < 64; k++) {
            kit.same("element " + k, x.get(0, k), (k * 7 + 3) % 9);
            kit.same("element " + k + " of the variable", x.variableOf(0, 0, k), (k * 5 + 1) % 9);
        }
        kit.fails("element 64", Kit.INDEX, () -> x.get(0, 64));
    }

    private static void variableValues(Kit kit) {
        StepCode x = new StepCode();
        x.variable(0, 0, 0);
        x.variable(1, 2, 0);
        x.variable(2, LEAST, Kit.BIG);
        Kit.make(x, Kit.loop());
        kit.same("LOGIC at first", x.variableOf(0, 0, 0), 0);
        kit.same("a row at first", x.variableOf(0, 1, 1), 0);
        kit.same("a NUMBER at first", x.variableOf(0, 2, 0), LEAST);
        x.set(0, 0, 0, 8);
        x.set(0, 1, 1, 7);
        x.set(0, 2, 0, Kit.BIG);
        kit.same("LOGIC", x.variableOf(0, 0, 0), 8);
        kit.same("a row", Kit.rowOf(x, 0, 1, 2), "HU");
        kit.same("a NUMBER", x.variableOf(0, 2, 0), Kit.BIG);
        int[][] places = {{-1, 0, 0}, {1, 0, 0}, {0, -1, 0}, {0, 3, 0}, {0, 0, 1}, {0, 0, -1}, {0, 1, 2}, {0, 2, 1}};
        for (int[] at : places) {
            String what = at[0] + " " + at[1] + " " + at[2];
            kit.fails("variableOf " + what, Kit.INDEX, () -> x.variableOf(at[0], at[1], at[2]));
            kit.fails("set " + what, Kit.INDEX, () -> x.set(at[0], at[1], at[2], BEYOND));
        }
        kit.fails("set LOGIC 9", Kit.ARGUMENT, () -> x.set(0, 0, 0, 9));
        kit.fails("set element -1", Kit.ARGUMENT, () -> x.set(0, 1, 0, -1));
        kit.fails("set beyond", Kit.ARGUMENT, () -> x.set(0, 2, 0, BEYOND));
        kit.same("nothing has changed", x.variableOf(0, 2, 0), Kit.BIG);
        kit.same("it stops", x.resume(0, 5), StepCode.STOPPED);
        x.set(0, 2, 0, 12);
        kit.same("a variable of a process that has stopped", x.variableOf(0, 2, 0), 12);
    }
}
