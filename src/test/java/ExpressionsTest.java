/** What expressions are, and their faults. */
public final class ExpressionsTest {
    private static final String Z32 = "0".repeat(32);
    private static Kit kit;

    public static void main(String[] args) {
        kit = new Kit("ExpressionsTest");
        logicTables();
        truths();
        numbers();
        sameness();
        samenessOfObjects();
        order();
        rowSums();
        joined();
        shifted();
        conversions();
        elements();
        edges();
        objectsOfSignals();
        order3First();
        leftToRight();
        deep();
        kit.end();
    }

    private static void is(String what, Kit.Tree expression, String want) {
        kit.same(what, Tried.found(expression), want);
    }

    private static void two(int op, String a, String b, String want) {
        is(a + " " + op + " " + b, Kit.two(op, Tried.of(a), Tried.of(b)), want);
    }

    private static void one(int op, String a, String want) {
        is(op + " " + a, Kit.one(op, Tried.of(a)), want);
    }

    /** Rows of answers: left code, then the answer for each right code, as the document's words give them. */
    private static void logicTables() {
        String[] and = {
            "UU0UUU0UU", "UX0XXX0XX", "000000000", "UX01XX01X", "UX0XXX0XX", "UX0XXX0XX", "000000000", "UX01XX01X",
            "UX0XXX0XX"};
        String[] or = {
            "UUU1UUU1U", "UXX1XXX1X", "UX01XX01X", "111111111", "UXX1XXX1X", "UXX1XXX1X", "UX01XX01X", "111111111",
            "UXX1XXX1X"};
        String[] other = {
            "UUUUUUUUU", "UXXXXXXXX", "UX01XX01X", "UX10XX10X", "UXXXXXXXX", "UXXXXXXXX", "UX01XX01X", "UX10XX10X",
            "UXXXXXXXX"};
        String[][] tables = {and, or, null, null, other, null};
        int[] straight = {0, 1, 0, 1, 4, 4};
        for (int op = 0; op <= 5; op++) {
            boolean turned = op == 2 || op == 3 || op == 5;
            for (int a = 0; a < 9; a++) {
                StringBuilder row = new StringBuilder();
                for (int b = 0; b < 9; b++) {
                    char due = tables[straight[op]][a].charAt(b);
                    due = !turned ? due : due == '0' ? '1' : due == '1' ? '0' : due;
                    row.append(due);
                    two(op, "'" + Kit.CODES.charAt(a) + "'", "'" + Kit.CODES.charAt(b) + "'", "'" + due + "'");
                }
                String same = String.valueOf(Kit.CODES.charAt(a)).repeat(9);
                two(op, "[" + same + "]", "[" + Kit.CODES + "]", "[" + row + "]");
            }
        }
        String not = "UX10XX10X";
        for (int a = 0; a < 9; a++) {
            one(0, "'" + Kit.CODES.charAt(a) + "'", "'" + not.charAt(a) + "'");
        }
        one(0, "[" + Kit.CODES + "]", "[" + not + "]");
        one(0, "[" + "U".repeat(40) + "]", "[" + "U".repeat(40) + "]");
        two(1, "[" + "U".repeat(45) + "]", "[" + "0".repeat(45) + "]", "[" + "U".repeat(45) + "]");
        String wide = "01LHUX-Z".repeat(8);
        one(0, "[" + wide + "]", "[" + "1010UXXX".repeat(8) + "]");
        two(0, "[" + wide + "]", "[" + "1".repeat(64) + "]", "[" + "0101UXXX".repeat(8) + "]");
    }

    private static void truths() {
        String[] due = {"0001", "0111", "1110", "1000", "0110", "1001"};
        for (int op = 0; op <= 5; op++) {
            two(op, "0", "0", due[op].substring(0, 1));
            two(op, "0", "-7", due[op].substring(1, 2));
            two(op, "9", "0", due[op].substring(2, 3));
            two(op, "2", "5", due[op].substring(3));
            two(op, "1", "'1'", "fault 3");
            two(op, "'1'", "1", "fault 3");
            two(op, "'1'", "[1]", "fault 3");
            two(op, "[1]", "'1'", "fault 3");
            two(op, "[1]", "1", "fault 3");
            two(op, "[11]", "[111]", "fault 4");
        }
        one(0, "0", "1");
        one(0, "1", "0");
        one(0, "-3", "0");
    }

    private static void numbers() {
        String big = String.valueOf(Kit.BIG);
        String least = "-" + big;
        one(1, big, least);
        one(1, least, big);
        one(1, "0", "0");
        one(2, "-5", "-5");
        one(2, least, least);
        one(3, "-5", "5");
        one(3, "5", "5");
        one(3, least, big);
        for (int op = 1; op <= 3; op++) {
            one(op, "'1'", "fault 3");
            one(op, "[1]", "fault 3");
        }
        two(12, "3", "4", "7");
        two(12, big, "0", big);
        two(12, big, "1", "fault 9");
        two(12, least, "-1", "fault 9");
        two(12, big, least, "0");
        two(13, "3", "4", "-1");
        two(13, least, "1", "fault 9");
        two(13, "-1", big, "fault 9");
        two(13, "0", big, least);
        two(15, "-6", "7", "-42");
        two(15, big, "-1", least);
        two(15, "65536", "32768", "fault 9");
        two(15, "-65536", "32768", "fault 9");
        two(15, big, big, "fault 9");
        two(15, "46341", "46340", "2147441940");
        int[][] pairs = {{7, 3}, {-7, 3}, {7, -3}, {-7, -3}, {6, 3}, {-6, 3}, {0, -4}, {1, 5}, {-1, 5}};
        int[][] due = {{2, 1, 1}, {-2, 2, -1}, {-2, -2, 1}, {2, -1, -1}, {2, 0, 0}, {-2, 0, 0}, {0, 0, 0}, {0, 1, 1},
            {0, 4, -1}};
        for (int i = 0; i < pairs.length; i++) {
            for (int op = 16; op <= 18; op++) {
                two(op, "" + pairs[i][0], "" + pairs[i][1], "" + due[i][op - 16]);
            }
        }
        two(16, least, "-1", big);
        for (int op = 15; op <= 18; op++) {
            two(op, "1", "'1'", "fault 3");
            two(op, "[1]", "1", "fault 3");
            two(op, "'1'", "0", "fault 3");
            two(op, "[1]", "[1]", "fault 3");
            if (op > 15) {
                two(op, "1", "0", "fault 10");
                two(op, "0", "0", "fault 10");
            }
        }
    }

    private static void sameness() {
        two(6, "5", "5", "1");
        two(6, "5", "4", "0");
        two(7, "5", "5", "0");
        two(7, "2", "1", "1");
        two(6, "'1'", "'1'", "1");
        two(6, "'1'", "'H'", "0");
        two(6, "'0'", "'L'", "0");
        two(7, "'X'", "'X'", "0");
        two(6, "'U'", "'-'", "0");
        two(6, "[01UX-]", "[01UX-]", "1");
        two(6, "[01UX-]", "[01UXZ]", "0");
        two(7, "[L1UX-]", "[01UX-]", "1");
        for (int op = 6; op <= 7; op++) {
            two(op, "[01]", "[010]", "fault 4");
            two(op, "[1]", "'1'", "fault 3");
            two(op, "1", "'1'", "fault 3");
            two(op, "[1]", "1", "fault 3");
        }
    }

    /** A value is the same whether it was there at first, was put, was set or was found. */
    private static void samenessOfObjects() {
        StepCode x = new StepCode();
        x.signal(2, 3, 9);
        x.signal(1, 2, 0);
        x.variable(2, 3, 9);
        x.variable(1, 2, 0);
        Kit.make(x, Kit.report(Kit.two(6, Kit.var(0), Kit.num(3))), Kit.report(Kit.two(6, Kit.sig(0), Kit.var(0))),
                Kit.report(Kit.two(6, Kit.var(1), Kit.row("UU"))), Kit.report(Kit.two(6, Kit.sig(1), Kit.var(1))),
                Kit.pause(), Kit.let(Kit.var(0), Kit.num(7)), Kit.let(Kit.var(1), Kit.row("H1")),
                Kit.report(Kit.two(6, Kit.var(0), Kit.sig(0))), Kit.report(Kit.two(6, Kit.sig(1), Kit.var(1))),
                Kit.report(Kit.two(6, Kit.two(12, Kit.num(3), Kit.num(4)), Kit.sig(0))), Kit.pause());
        x.resume(0, 99);
        kit.same("the same at first", Kit.reports(x), "1 1 1 1");
        x.put(0, false, 0, 7);
        x.put(1, false, 0, 3);
        x.put(1, false, 1, 7);
        x.resume(0, 99);
        kit.same("the same later", Kit.reports(x), "1 1 1");
    }

    private static void order() {
        String[] less = {"1", "1", "0", "0"};
        String[] more = {"0", "0", "1", "1"};
        String[] same = {"0", "1", "0", "1"};
        for (int op = 8; op <= 11; op++) {
            two(op, "-2", "1", less[op - 8]);
            two(op, "4", "-4", more[op - 8]);
            two(op, "3", "3", same[op - 8]);
            two(op, "[01]", "[1L]", less[op - 8]);
            two(op, "[10]", "[0H]", more[op - 8]);
            two(op, "[1H]", "[H1]", same[op - 8]);
            two(op, "[1" + "0".repeat(63) + "]", "[0" + "1".repeat(63) + "]", more[op - 8]);
            two(op, "[0X]", "[11]", "0");
            two(op, "[11]", "[0U]", "0");
            two(op, "[ZZ]", "[ZZ]", "0");
            two(op, "'0'", "'1'", "fault 3");
            two(op, "[0]", "'1'", "fault 3");
            two(op, "'0'", "[1]", "fault 3");
            two(op, "0", "[1]", "fault 3");
            two(op, "[1]", "0", "fault 3");
            two(op, "'1'", "0", "fault 3");
            two(op, "0", "'1'", "fault 3");
            two(op, "[1]", "[01]", "fault 4");
        }
    }

    private static void rowSums() {
        two(12, "[0011]", "[0001]", "[0100]");
        two(12, "[1HH1]", "[0L01]", "[0000]");
        two(13, "[0000]", "[0001]", "[1111]");
        two(13, "[0101]", "[0011]", "[0010]");
        two(12, "[0001]", "6", "[0111]");
        two(12, "6", "[0001]", "[0111]");
        two(12, "[0001]", "-1", "[0000]");
        two(12, "-2", "[0001]", "[1111]");
        two(13, "[0001]", "3", "[1110]");
        two(13, "3", "[0001]", "[0010]");
        two(13, "-1", "[0001]", "[1110]");
        two(13, "[0001]", "-1", "[0010]");
        two(12, "[11]", "103", "[10]");
        two(12, "[" + "0".repeat(64) + "]", "-1", "[" + "1".repeat(64) + "]");
        two(12, "[" + "1".repeat(64) + "]", "[" + "1".repeat(64) + "]", "[" + "1".repeat(63) + "0]");
        two(13, "-2147483647", "[" + "0".repeat(40) + "]", "[" + "1".repeat(9) + "0".repeat(30) + "1]");
        for (int op = 12; op <= 13; op++) {
            two(op, "[0X01]", "[0001]", "[XXXX]");
            two(op, "[0001]", "[000-]", "[XXXX]");
            two(op, "[U]", "5", "[X]");
            two(op, "5", "[01Z]", "[XXX]");
            two(op, "[01]", "[1]", "fault 4");
            two(op, "[0X]", "[1]", "fault 4");
            two(op, "'1'", "1", "fault 3");
            two(op, "1", "'1'", "fault 3");
            two(op, "'1'", "[1]", "fault 3");
            two(op, "[11]", "'1'", "fault 3");
            two(op, "'1'", "'1'", "fault 3");
        }
    }

    private static void joined() {
        two(14, "'0'", "'X'", "[0X]");
        two(14, "'H'", "[01]", "[H01]");
        two(14, "[01]", "'-'", "[01-]");
        two(14, "[UX]", "[ZWL]", "[UXZWL]");
        two(14, "[" + "01".repeat(16) + "]", "[" + "X-".repeat(16) + "]",
                "[" + "01".repeat(16) + "X-".repeat(16) + "]");
        two(14, "[" + "1".repeat(63) + "]", "'0'", "[" + "1".repeat(63) + "0]");
        two(14, "'0'", "[" + "1".repeat(63) + "]", "[0" + "1".repeat(63) + "]");
        two(14, "[" + "1".repeat(64) + "]", "'0'", "fault 4");
        two(14, "[" + "1".repeat(33) + "]", "[" + Z32 + "]", "fault 4");
        two(14, "1", "'0'", "fault 3");
        two(14, "[1]", "1", "fault 3");
        two(14, "1", "[" + "1".repeat(64) + "]", "fault 3");
    }

    private static void shifted() {
        two(19, "[UX1-]", "1", "[X1-0]");
        two(20, "[UX1-]", "1", "[0UX1]");
        two(19, "[UX1-]", "-1", "[0UX1]");
        two(20, "[UX1-]", "-1", "[X1-0]");
        two(19, "[UX1-]", "0", "[UX1-]");
        two(20, "[UX1-]", "3", "[000U]");
        two(19, "[UX1-]", "3", "[-000]");
        for (String n : new String[] {"4", "-4", "5", "64", "-64", "65", "2147483647", "-2147483647", "32", "128"}) {
            two(19, "[UX1-]", n, "[0000]");
            two(20, "[UX1-]", n, "[0000]");
        }
        String wide = "H" + "-".repeat(62) + "1";
        two(19, "[" + wide + "]", "63", "[1" + "0".repeat(63) + "]");
        two(20, "[" + wide + "]", "63", "[" + "0".repeat(63) + "H]");
        two(20, "[" + wide + "]", "64", "[" + "0".repeat(64) + "]");
        for (int op = 19; op <= 20; op++) {
            two(op, "'1'", "1", "fault 3");
            two(op, "1", "1", "fault 3");
            two(op, "[1]", "'1'", "fault 3");
            two(op, "[1]", "[1]", "fault 3");
            two(op, "1", "[1]", "fault 3");
        }
    }

    private static Kit.Tree toNumber(String row) {
        return Kit.t(84, 10, Tried.of(row));
    }

    private static Kit.Tree toRow(String number, int n) {
        return Kit.t(84, 11, Tried.of(number), Kit.num(n));
    }

    private static void conversions() {
        is("a number", toNumber("[0H1L]"), "6");
        is("no number", toNumber("[0000]"), "0");
        is("the greatest", toNumber("[" + "1".repeat(31) + "]"), "" + Kit.BIG);
        is("the greatest in 64", toNumber("[" + "0".repeat(33) + "1".repeat(31) + "]"), "" + Kit.BIG);
        is("beyond", toNumber("[1" + "0".repeat(31) + "]"), "fault 9");
        is("far beyond", toNumber("[" + "1".repeat(64) + "]"), "fault 9");
        is("beyond, in 64", toNumber("[1" + "0".repeat(63) + "]"), "fault 9");
        is("not CLEAR", toNumber("[0X]"), "fault 9");
        is("not CLEAR", toNumber("[U]"), "fault 9");
        is("of LOGIC", toNumber("'1'"), "fault 3");
        is("of a NUMBER", toNumber("1"), "fault 3");
        is("the lowest four bits", toRow("21", 4), "[0101]");
        is("one bit", toRow("-1", 1), "[1]");
        is("below 0", toRow("-2", 6), "[111110]");
        is("below 0, in 64", toRow("-2147483647", 64), "[" + "1".repeat(33) + "0".repeat(30) + "1]");
        is("above 0, in 64", toRow("2147483647", 64), "[" + "0".repeat(33) + "1".repeat(31) + "]");
        is("of LOGIC", toRow("'1'", 4), "fault 3");
        is("of a row", toRow("[1]", 1), "fault 3");
    }

    private static void elements() {
        // Signal 0 is 1010, variable 1 is 10XU from the left.
        for (int k = 0; k < 4; k++) {
            is("element " + k, Kit.elem(Kit.sig(0), Kit.num(k)), "'" + "0101".charAt(k) + "'");
            is("element " + k, Kit.elem(Kit.var(1), Kit.num(k)), "'" + "UX01".charAt(k) + "'");
        }
        for (int k : new int[] {-1, 4, 64, -64, Kit.BIG, -Kit.BIG}) {
            is("element " + k, Kit.elem(Kit.sig(0), Kit.num(k)), "fault 6");
        }
        is("element '1'", Kit.elem(Kit.sig(0), Kit.logic('1')), "fault 3");
        is("element [1]", Kit.elem(Kit.var(1), Kit.row("1")), "fault 3");
        is("element by an expression", Kit.elem(Kit.var(1), Kit.two(12, Kit.num(1), Kit.num(2))), "'1'");
        is("part", Kit.part(Kit.var(1), 1, 2), "[0X]");
        is("part of one", Kit.part(Kit.var(1), 3, 1), "[1]");
        is("all of it", Kit.part(Kit.var(1), 0, 4), "[10XU]");
        is("a variable", Kit.var(1), "[10XU]");
        is("a signal", Kit.sig(0), "[1010]");
    }

    private static void edges() {
        for (int now = 0; now < 9; now++) {
            for (int last = 0; last < 9; last++) {
                StepCode x = new StepCode();
                x.signal(0, 0, 0);
                x.signal(0, 0, 0);
                Kit.make(x, Kit.report(Kit.t(84, 8, Kit.sig(1))), Kit.report(Kit.t(84, 9, Kit.sig(1))), Kit.pause());
                x.put(1, false, 0, now);
                x.put(1, true, 0, last);
                x.mark(1, false, true);
                x.resume(0, 9);
                kit.same("no event", Kit.reports(x), "0 0");
                x.mark(1, true, false);
                x.resume(0, 9);
                boolean rising = (now == 3 || now == 7) && (last == 2 || last == 6);
                boolean falling = (now == 2 || now == 6) && (last == 3 || last == 7);
                kit.same("edge from " + last + " to " + now, Kit.reports(x),
                        (rising ? "1 " : "0 ") + (falling ? "1" : "0"));
            }
        }
    }

    private static void objectsOfSignals() {
        StepCode x = new StepCode();
        x.signal(0, 0, 0);
        x.signal(1, 3, 0);
        x.signal(2, -9, 9);
        x.variable(0, 0, 0);
        x.variable(1, 3, 0);
        x.variable(2, -9, 9);
        Kit.make(x, Kit.let(Kit.var(0), Kit.t(85, 17, Kit.sig(0))), Kit.let(Kit.var(1), Kit.t(85, 17, Kit.sig(1))),
                Kit.let(Kit.var(2), Kit.t(85, 17, Kit.sig(2))), Kit.pause());
        x.resume(0, 9);
        kit.same("last values at first", Kit.fate(x, 0) + x.variableOf(0, 0, 0) + Kit.rowOf(x, 0, 1, 3)
                + x.variableOf(0, 2, 0), "waits0UUU-9");
        x.put(0, true, 0, 8);
        x.put(1, true, 2, 4);
        x.put(2, true, 0, 5);
        x.resume(0, 9);
        kit.same("last values", Kit.fate(x, 0) + x.variableOf(0, 0, 0) + Kit.rowOf(x, 0, 1, 3)
                + x.variableOf(0, 2, 0), "waits8ZUU5");
    }

    private static void order3First() {
        two(16, "'0'", "0", "fault 3");
        two(14, "5", "[" + "1".repeat(64) + "]", "fault 3");
        two(12, "[01]", "'1'", "fault 3");
    }

    /** The first fault on the way is the one, and its node is told; node 0 is what is set. */
    private static void leftToRight() {
        Kit.Tree byZero = Kit.two(16, Kit.num(1), Kit.num(0));
        Kit.Tree beyond = Kit.two(12, Kit.num(Kit.BIG), Kit.num(1));
        kit.same("left one first", Tried.found(Kit.two(0, byZero, beyond)), "fault 10 at 3");
        kit.same("left one first, turned", Tried.found(Kit.two(0, beyond, byZero)), "fault 9 at 3");
        kit.same("inner one first", Tried.found(Kit.two(0, Kit.logic('1'), byZero)), "fault 10 at 4");
        kit.same("an element's index first", Tried.found(Kit.elem(Kit.sig(0), Kit.one(1, Kit.logic('0')))),
                "fault 3 at 3");
    }

    /** A hundred nodes deep, leaning to the right, so that all operands wait. */
    private static void deep() {
        StepCode x = new StepCode();
        x.signal(1, 64, 0);
        Kit.Tree sum = Kit.t(84, 10, Kit.part(Kit.sig(0), 3, 2));
        for (int i = 0; i < 95; i++) {
            sum = Kit.two(12, Kit.num(i), sum);
        }
        kit.same("process", Kit.make(x, Kit.report(sum)), 0);
        for (int k = 0; k < 64; k++) {
            x.put(0, false, k, 3);
        }
        x.resume(0, 2);
        kit.same("the sum", Kit.reports(x), "" + (95 * 94 / 2 + 3));
        StepCode y = new StepCode();
        Kit.Tree join = Kit.two(13, Kit.num(5), Kit.row("1".repeat(64)));
        for (int i = 0; i < 90; i++) {
            join = Kit.two(12, Kit.num(1), join);
        }
        kit.same("process", Kit.make(y, Kit.report(Kit.two(8, Kit.row("0".repeat(62) + "1L"), join))), 0);
        y.resume(0, 2);
        kit.same("6 + 90 is more than 2", Kit.reports(y), "1");
    }
}
