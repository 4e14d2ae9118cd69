/** Expressions that are tried out: each is what a variable of the right class is set to. */
final class Tried {
    private Tried() {
    }

    /** A process that sets a variable of a class to the expression, done once. */
    private static StepCode tried(int is, int a, int b, Kit.Tree expression) {
        StepCode x = new StepCode();
        x.signal(1, 4, 0);
        x.variable(is, a, b);
        x.variable(1, 4, 0);
        Kit.make(x, Kit.let(Kit.var(0), expression), Kit.pause());
        for (int k = 0; k < 4; k++) {
            x.put(0, false, k, 2 + k % 2);
            x.set(0, 1, k, k);
        }
        x.resume(0, 10);
        return x;
    }

    /** What an expression is: a NUMBER, a LOGIC in quotes, a row in brackets, or its fault and whose node has it. */
    static String found(Kit.Tree e) {
        StepCode x = tried(2, -Kit.BIG, Kit.BIG, e);
        if (x.about(0, 0) == StepCode.WAITS) {
            return String.valueOf(x.variableOf(0, 0, 0));
        }
        int set = e.number + 1;
        if (x.about(0, 2) != set) {
            return "fault " + x.about(0, 1) + (x.about(0, 2) == e.number ? "" : " at " + x.about(0, 2));
        }
        x = tried(0, 0, 0, e);
        if (x.about(0, 0) == StepCode.WAITS) {
            return "'" + Kit.CODES.charAt(x.variableOf(0, 0, 0)) + "'";
        }
        for (int n = 1; n <= 64; n++) {
            x = tried(1, n, 0, e);
            if (x.about(0, 0) == StepCode.WAITS) {
                return "[" + Kit.rowOf(x, 0, 0, n) + "]";
            }
        }
        return "nothing";
    }

    /** A NUMBER, a LOGIC in quotes, or a row in brackets. */
    static Kit.Tree of(String text) {
        if (text.startsWith("'")) {
            return Kit.logic(text.charAt(1));
        }
        if (text.startsWith("[")) {
            return Kit.row(text.substring(1, text.length() - 1));
        }
        return Kit.num(Integer.parseInt(text));
    }
}
