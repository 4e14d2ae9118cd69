import java.math.BigInteger;

/** The edges that the document names of what expressions are, and of their faults, sentence by sentence. */
public final class EdgesOfExpressionsTest {
    private static final String WHAT = "Terms, WHAT EXPRESSIONS ARE";
    private static final String FAULTS = "Terms, FAULTS";
    private static final int BIG = Kit.BIG;
    private static final int[] NUMBERS = {-BIG, -BIG + 1, -65536, -2, -1, 0, 1, 2, 3, 46341, BIG - 1, BIG};
    private static Kit kit;

    public static void main(String[] args) {
        kit = new Kit("EdgesOfExpressionsTest");
        nots();
        signs();
        truths();
        ands();
        ors();
        others();
        turned();
        same();
        order();
        sumsOfNumbers();
        sumsOfRows();
        sumsOfRowsAndNumbers();
        unclearSums();
        joined();
        products();
        quotients();
        shifted();
        rising();
        classes();
        lengths();
        noElement();
        beyond();
        byZero();
        leftToRight();
        classesFirst();
        kit.end();
    }

    private static void is(Kit.Tree expression, String due) {
        String found = Tried.found(expression);
        kit.same(text(expression), found, due);
    }

    private static void two(int op, String a, String b, String due) {
        is(Kit.two(op, Tried.of(a), Tried.of(b)), due);
    }

    private static void one(int op, String a, String due) {
        is(Kit.one(op, Tried.of(a)), due);
    }

    private static String text(Kit.Tree tree) {
        StringBuilder text = new StringBuilder().append(tree.kind).append('.').append(tree.value);
        if (tree.kids.size() > 0) {
            text.append('(');
            for (Kit.Tree kid : tree.kids) {
                text.append(text(kid)).append(' ');
            }
            text.append(')');
        }
        return text.toString();
    }

    private static String quoted(char c) {
        return "'" + c + "'";
    }

    private static boolean isZero(char c) {
        return c == '0' || c == 'L';
    }

    private static boolean isOne(char c) {
        return c == '1' || c == 'H';
    }

    private interface Rule {
        char of(char a, char b);
    }

    /** All pairs, as LOGICs, and as elements at both ends of rows of 1, 2 and 64. */
    private static void pairs(int op, Rule rule) {
        for (char a : Kit.CODES.toCharArray()) {
            for (char b : Kit.CODES.toCharArray()) {
                char due = rule.of(a, b);
                two(op, quoted(a), quoted(b), quoted(due));
                two(op, "[" + a + "]", "[" + b + "]", "[" + due + "]");
                two(op, "[" + a + b + "]", "[" + b + a + "]", "[" + due + rule.of(b, a) + "]");
            }
        }
        String left = (Kit.CODES.repeat(8)).substring(0, 64);
        for (int turn = 0; turn < 9; turn++) {
            String right = Kit.CODES.repeat(9).substring(turn, turn + 64);
            StringBuilder due = new StringBuilder();
            for (int i = 0; i < 64; i++) {
                due.append(rule.of(left.charAt(i), right.charAt(i)));
            }
            two(op, "[" + left + "]", "[" + right + "]", "[" + due + "]");
        }
    }

    private static char not(char c) {
        return c == 'U' ? 'U' : isZero(c) ? '1' : isOne(c) ? '0' : 'X';
    }

    private static void nots() {
        kit.says(WHAT, "not: of a NUMBER as a truth, of LOGIC: U of U, ONE of ZERO and L, ZERO of ONE and H, else X; "
                + "of a row element by element.");
        for (int n : NUMBERS) {
            one(0, "" + n, n == 0 ? "1" : "0");
        }
        StringBuilder all = new StringBuilder();
        StringBuilder due = new StringBuilder();
        for (int i = 0; i < 64; i++) {
            char c = Kit.CODES.charAt(i % 9);
            one(0, quoted(c), quoted(not(c)));
            one(0, "[" + c + "]", "[" + not(c) + "]");
            all.append(c);
            due.append(not(c));
            one(0, "[" + all + "]", "[" + due + "]");
        }
    }

    private static void signs() {
        kit.says(WHAT, "minus, plus, size (the NUMBER without its sign): NUMBERs.");
        for (int n : NUMBERS) {
            one(1, "" + n, "" + -n);
            one(2, "" + n, "" + n);
            one(3, "" + n, "" + (n < 0 ? -n : n));
        }
        for (int op = 1; op <= 3; op++) {
            one(op, "'1'", "fault 3");
            one(op, "[1]", "fault 3");
            one(op, "[" + "0".repeat(64) + "]", "fault 3");
        }
    }

    private static void truths() {
        kit.says(WHAT, "0 to 5: of two NUMBERs as truths; two LOGICs; two rows of one length, element by element:");
        for (int a : new int[] {-BIG, -1, 0, 1, 2, BIG}) {
            for (int b : new int[] {-BIG, -1, 0, 1, 2, BIG}) {
                boolean p = a != 0;
                boolean q = b != 0;
                boolean[] due = {p && q, p || q, !(p && q), !(p || q), p != q, p == q};
                for (int op = 0; op <= 5; op++) {
                    two(op, "" + a, "" + b, due[op] ? "1" : "0");
                }
            }
        }
        String[] ofZeroAndOne = {"0", "1", "1", "0", "1", "0"};
        for (int op = 0; op <= 5; op++) {
            String due = ofZeroAndOne[op];
            two(op, "'L'", "'H'", "'" + due + "'");
            for (int n : new int[] {1, 2, 63, 64}) {
                two(op, "[" + "0".repeat(n) + "]", "[" + "1".repeat(n) + "]", "[" + due.repeat(n) + "]");
            }
            two(op, "[" + "0".repeat(63) + "]", "[" + "1".repeat(64) + "]", "fault 4");
        }
    }

    private static char and(char a, char b) {
        return isZero(a) || isZero(b) ? '0' : a == 'U' || b == 'U' ? 'U' : isOne(a) && isOne(b) ? '1' : 'X';
    }

    private static char or(char a, char b) {
        return isOne(a) || isOne(b) ? '1' : a == 'U' || b == 'U' ? 'U' : isZero(a) && isZero(b) ? '0' : 'X';
    }

    private static char other(char a, char b) {
        boolean known = (isZero(a) || isOne(a)) && (isZero(b) || isOne(b));
        return a == 'U' || b == 'U' ? 'U' : !known ? 'X' : isOne(a) != isOne(b) ? '1' : '0';
    }

    private static void ands() {
        kit.says(WHAT, "and: ZERO if one is ZERO or L; else U if one is U; ONE if both are ONE or H; else X.");
        pairs(0, EdgesOfExpressionsTest::and);
    }

    private static void ors() {
        kit.says(WHAT, "or: ONE if one is ONE or H; else U if one is U; ZERO if both are ZERO or L; else X.");
        pairs(1, EdgesOfExpressionsTest::or);
    }

    private static void others() {
        kit.says(WHAT, "other: U if one is U; X if one is none of ZERO, ONE, L, H; else whether they differ.");
        pairs(4, EdgesOfExpressionsTest::other);
    }

    private static void turned() {
        kit.says(WHAT, "turned: not of it.");
        pairs(2, (a, b) -> not(and(a, b)));
        pairs(3, (a, b) -> not(or(a, b)));
        pairs(5, (a, b) -> not(other(a, b)));
    }

    private static void same() {
        kit.says(WHAT, "6, 7: two of one class (rows of one length): truths, whether they are the same values (L is "
                + "not ZERO, H not ONE).");
        for (char a : Kit.CODES.toCharArray()) {
            for (char b : Kit.CODES.toCharArray()) {
                String due = a == b ? "1" : "0";
                String not = a == b ? "0" : "1";
                two(6, quoted(a), quoted(b), due);
                two(7, quoted(a), quoted(b), not);
                for (int k : new int[] {0, 31, 32, 63}) {
                    String row = "[" + "X".repeat(63 - k) + "%" + "H".repeat(k) + "]";
                    two(6, row.replace('%', a), row.replace('%', b), due);
                    two(7, row.replace('%', a), row.replace('%', b), not);
                }
            }
        }
        for (int a : NUMBERS) {
            for (int b : NUMBERS) {
                two(6, "" + a, "" + b, a == b ? "1" : "0");
                two(7, "" + a, "" + b, a == b ? "0" : "1");
            }
        }
        sameWhereverFrom();
    }

    /** Values that were something else on the way are the same as those that are written down. */
    private static void sameWhereverFrom() {
        is(Kit.two(6, Kit.t(84, 10, Kit.row("H1H1")), Kit.num(15)), "1");
        is(Kit.two(6, Kit.num(15), Kit.t(84, 10, Kit.row("HHHH"))), "1");
        is(Kit.two(6, Kit.t(84, 11, Kit.num(-1), Kit.num(3)), Kit.row("111")), "1");
        is(Kit.two(6, Kit.row("111"), Kit.t(84, 11, Kit.num(7), Kit.num(3))), "1");
        is(Kit.two(6, Kit.elem(Kit.var(1), Kit.num(1)), Kit.logic('X')), "1");
        is(Kit.two(6, Kit.part(Kit.var(1), 1, 2), Kit.row("0X")), "1");
        is(Kit.two(6, Kit.two(6, Kit.row("-W"), Kit.row("-W")), Kit.num(1)), "1");
        is(Kit.two(6, Kit.num(1), Kit.two(6, Kit.row("-W"), Kit.row("-W"))), "1");
        is(Kit.two(6, Kit.num(0), Kit.two(7, Kit.logic('-'), Kit.logic('-'))), "1");
        is(Kit.two(6, Kit.two(8, Kit.row("10"), Kit.row("HL")), Kit.num(0)), "1");
        is(Kit.two(6, Kit.two(12, Kit.num(5), Kit.row("000")), Kit.row("101")), "1");
        is(Kit.two(6, Kit.two(14, Kit.logic('W'), Kit.logic('-')), Kit.row("W-")), "1");
        is(Kit.two(6, Kit.two(19, Kit.row("--"), Kit.num(2)), Kit.row("00")), "1");
        is(Kit.two(6, Kit.one(0, Kit.row("-WZ")), Kit.row("XXX")), "1");
        is(Kit.two(7, Kit.one(0, Kit.row("LH")), Kit.row("10")), "0");
    }

    private static void order() {
        kit.says(WHAT, "8 to 11: two NUMBERs; two rows of one length, by their numbers, false if one is not CLEAR.");
        for (int a : NUMBERS) {
            for (int b : NUMBERS) {
                ordered("" + a, "" + b, Integer.compare(a, b));
            }
        }
        String[] rising = {"0".repeat(64), "0".repeat(63) + "1", "0".repeat(33) + "H".repeat(31),
            "0".repeat(32) + "1" + "L".repeat(31), "0".repeat(32) + "1".repeat(32), "0" + "1".repeat(63),
            "1" + "0".repeat(63), "H" + "1".repeat(62) + "0", "1".repeat(64)};
        for (int i = 0; i < rising.length; i++) {
            for (int j = 0; j < rising.length; j++) {
                ordered("[" + rising[i] + "]", "[" + rising[j] + "]", Integer.compare(i, j));
            }
        }
        ordered("[L]", "[0]", 0);
        ordered("[H]", "[1]", 0);
        ordered("[L]", "[H]", -1);
        for (char c : "UXZW-".toCharArray()) {
            for (int op = 8; op <= 11; op++) {
                two(op, "[" + c + "]", "[0]", "0");
                two(op, "[0]", "[" + c + "]", "0");
                two(op, "[" + c + "]", "[" + c + "]", "0");
                two(op, "[" + c + "0]", "[00]", "0");
                two(op, "[11]", "[0" + c + "]", "0");
                two(op, "[" + "1".repeat(63) + c + "]", "[" + "0".repeat(64) + "]", "0");
                two(op, "[" + "0".repeat(64) + "]", "[" + c + "1".repeat(63) + "]", "0");
            }
        }
    }

    private static void ordered(String a, String b, int sign) {
        two(8, a, b, sign < 0 ? "1" : "0");
        two(9, a, b, sign <= 0 ? "1" : "0");
        two(10, a, b, sign > 0 ? "1" : "0");
        two(11, a, b, sign >= 0 ? "1" : "0");
    }

    private static String number(long n) {
        return n < -BIG || n > BIG ? "fault 9" : "" + n;
    }

    private static void sumsOfNumbers() {
        kit.says(WHAT, "12, 13: two NUMBERs;");
        for (int a : NUMBERS) {
            for (int b : NUMBERS) {
                two(12, "" + a, "" + b, number((long) a + b));
                two(13, "" + a, "" + b, number((long) a - b));
            }
        }
    }

    /** The lowest n bits of a number, however great or small. */
    private static String bits(BigInteger number, int n) {
        String bits = number.mod(BigInteger.TWO.pow(n)).toString(2);
        return "[" + "0".repeat(n - bits.length()) + bits + "]";
    }

    private static BigInteger numberOf(String row) {
        return new BigInteger(row.replace('L', '0').replace('H', '1'), 2);
    }

    private static String[] rowsOf(int n) {
        String mixed = "01LH1H0L".repeat(8).substring(0, n);
        return new String[] {"0".repeat(n), "1".repeat(n), "0".repeat(n - 1) + "1", "1" + "0".repeat(n - 1),
            "L" + "H".repeat(n - 1), mixed};
    }

    private static void sumsOfRows() {
        kit.says(WHAT, "two rows of one length, or a row and a NUMBER, in either order (13: the first less the "
                + "second): a row: put into its length without what goes beyond");
        for (int n : new int[] {1, 2, 31, 32, 33, 63, 64}) {
            for (String a : rowsOf(n)) {
                for (String b : rowsOf(n)) {
                    two(12, "[" + a + "]", "[" + b + "]", bits(numberOf(a).add(numberOf(b)), n));
                    two(13, "[" + a + "]", "[" + b + "]", bits(numberOf(a).subtract(numberOf(b)), n));
                }
            }
        }
    }

    private static void sumsOfRowsAndNumbers() {
        kit.says(WHAT, "(a NUMBER below 0 counting 2^64 more)");
        for (int n : new int[] {1, 2, 31, 32, 33, 63, 64}) {
            for (String a : rowsOf(n)) {
                for (int b : new int[] {-BIG, -2, -1, 0, 1, 2, BIG}) {
                    BigInteger row = numberOf(a);
                    BigInteger other = BigInteger.valueOf(b);
                    other = b < 0 ? other.add(BigInteger.TWO.pow(64)) : other;
                    two(12, "[" + a + "]", "" + b, bits(row.add(other), n));
                    two(12, "" + b, "[" + a + "]", bits(row.add(other), n));
                    two(13, "[" + a + "]", "" + b, bits(row.subtract(other), n));
                    two(13, "" + b, "[" + a + "]", bits(other.subtract(row), n));
                }
            }
        }
    }

    private static void unclearSums() {
        kit.says(WHAT, "all X if a row is not CLEAR.");
        for (char c : "UXZW-".toCharArray()) {
            for (int n : new int[] {1, 2, 33, 64}) {
                String all = "[" + "X".repeat(n) + "]";
                for (int k : new int[] {0, n - 1}) {
                    String a = "[" + "1".repeat(n - 1 - k) + c + "0".repeat(k) + "]";
                    String b = "[" + "1".repeat(n) + "]";
                    for (int op = 12; op <= 13; op++) {
                        two(op, a, b, all);
                        two(op, b, a, all);
                        two(op, a, a, all);
                        two(op, a, "0", all);
                        two(op, "-1", a, all);
                    }
                }
            }
        }
    }

    private static void joined() {
        kit.says(WHAT, "14: LOGICs and rows: a row, the first one's elements on the left.");
        two(14, "'U'", "'-'", "[U-]");
        two(14, "'0'", "[1]", "[01]");
        two(14, "[0]", "'1'", "[01]");
        two(14, "[X]", "[Z]", "[XZ]");
        for (int n : new int[] {1, 31, 32, 33, 62, 63}) {
            String a = "-LH01".repeat(13).substring(0, n);
            String b = "ZUX1W".repeat(13).substring(0, 64 - n);
            two(14, "[" + a + "]", "[" + b + "]", "[" + a + b + "]");
            two(14, "[" + a + "]", "[" + b + "1]", "fault 4");
            two(14, "[" + a + "1]", "[" + b + "]", "fault 4");
        }
        two(14, "'W'", "[" + "1".repeat(63) + "]", "[W" + "1".repeat(63) + "]");
        two(14, "[" + "1".repeat(63) + "]", "'W'", "[" + "1".repeat(63) + "W]");
        two(14, "'W'", "[" + "1".repeat(64) + "]", "fault 4");
        two(14, "[" + "1".repeat(64) + "]", "'W'", "fault 4");
        two(14, "[" + "1".repeat(64) + "]", "[" + "1".repeat(64) + "]", "fault 4");
    }

    private static void products() {
        kit.says(WHAT, "15 to 18: NUMBERs;");
        for (int a : NUMBERS) {
            for (int b : NUMBERS) {
                two(15, "" + a, "" + b, number((long) a * b));
            }
        }
        two(15, "46340", "46341", "2147441940");
        two(15, "46341", "46341", "fault 9");
        two(15, "1073741824", "2", "fault 9");
        two(15, "-1073741824", "2", "fault 9");
        two(15, "65536", "65536", "fault 9");
    }

    private static void quotients() {
        kit.says(WHAT, "the quotient towards 0, the modulus with the sign of the second, the remainder with that "
                + "of the first one.");
        int[] some = {-BIG, -BIG + 1, -8, -7, -3, -2, -1, 0, 1, 2, 3, 7, 8, BIG - 1, BIG};
        for (int a : some) {
            for (int b : some) {
                if (b != 0) {
                    long size = Math.abs((long) a) / Math.abs((long) b);
                    long quotient = (a < 0) == (b < 0) ? size : -size;
                    long remainder = a - quotient * b;
                    long modulus = remainder != 0 && (remainder < 0) != (b < 0) ? remainder + b : remainder;
                    two(16, "" + a, "" + b, number(quotient));
                    two(17, "" + a, "" + b, number(modulus));
                    two(18, "" + a, "" + b, number(remainder));
                }
            }
        }
    }

    private static void shifted() {
        kit.says(WHAT, "19, 20: a row by a NUMBER, ZEROs coming in, below 0 the other way.");
        for (int n : new int[] {1, 2, 33, 63, 64}) {
            String row = "-UXH1ZWL".repeat(8).substring(0, n);
            for (int by : new int[] {-BIG, -128, -65, -64, -63, -33, -32, -2, -1, 0, 1, 2, 31, 32, 33, 62, 63, 64, 65,
                127, 128, 129, 1 << 30, BIG}) {
                String left = moved(row, by);
                String right = moved(row, -by);
                two(19, "[" + row + "]", "" + by, "[" + left + "]");
                two(20, "[" + row + "]", "" + by, "[" + right + "]");
            }
        }
    }

    private static String moved(String row, int by) {
        int n = row.length();
        if (by >= n || by <= -n) {
            return "0".repeat(n);
        }
        return by >= 0 ? row.substring(by) + "0".repeat(by) : "0".repeat(-by) + row.substring(0, n + by);
    }

    private static void rising() {
        kit.says(WHAT, "rising: it has an event, is ONE or H, its last value ZERO or L; falling: the other way round.");
        for (char now : Kit.CODES.toCharArray()) {
            for (char last : Kit.CODES.toCharArray()) {
                StepCode x = new StepCode();
                x.signal(0, 0, 0);
                x.signal(0, 0, 0);
                Kit.make(x, Kit.report(Kit.t(84, 8, Kit.sig(1))), Kit.report(Kit.t(84, 9, Kit.sig(1))), Kit.pause());
                x.put(1, false, 0, Kit.CODES.indexOf(now));
                x.put(1, true, 0, Kit.CODES.indexOf(last));
                for (int marks = 0; marks < 4; marks++) {
                    boolean event = marks % 2 == 1;
                    x.mark(1, event, marks >= 2);
                    x.resume(0, 9);
                    boolean up = event && isOne(now) && isZero(last);
                    boolean down = event && isZero(now) && isOne(last);
                    kit.same("from " + last + " to " + now, Kit.reports(x), (up ? "1 " : "0 ") + (down ? "1" : "0"));
                }
            }
        }
    }

    private static final String[] OPERANDS = {"1", "'1'", "[1]", "[01]", "[" + "01".repeat(32) + "]"};

    /** 0 NUMBER, 1 LOGIC, 2 row. */
    private static int classOf(String operand) {
        return operand.startsWith("[") ? 2 : operand.startsWith("'") ? 1 : 0;
    }

    private static boolean goTogether(int op, int a, int b) {
        if (op <= 7) {
            return a == b;
        }
        if (op <= 11) {
            return a == b && a != 1;
        }
        if (op <= 13) {
            return a != 1 && b != 1;
        }
        if (op == 14) {
            return a != 0 && b != 0;
        }
        return op <= 18 ? a == 0 && b == 0 : a == 2 && b == 0;
    }

    private static void classes() {
        kit.says(FAULTS, "3 classes that do not go together;");
        for (int op = 0; op <= 20; op++) {
            for (String a : OPERANDS) {
                for (String b : OPERANDS) {
                    boolean fits = goTogether(op, classOf(a), classOf(b));
                    String found = Tried.found(Kit.two(op, Tried.of(a), Tried.of(b)));
                    kit.same(a + " " + op + " " + b + ", a fault of classes: " + found,
                            found.equals("fault 3") ? 1 : 0, fits ? 0 : 1);
                }
            }
        }
        is(Kit.t(84, 10, Kit.logic('1')), "fault 3");
        is(Kit.t(84, 10, Kit.num(1)), "fault 3");
        is(Kit.t(84, 11, Kit.logic('1'), Kit.num(1)), "fault 3");
        is(Kit.t(84, 11, Kit.row("1"), Kit.num(1)), "fault 3");
        is(Kit.elem(Kit.var(1), Kit.logic('1')), "fault 3");
        is(Kit.elem(Kit.var(1), Kit.row("1")), "fault 3");
    }

    private static void lengths() {
        kit.says(FAULTS, "4 rows of lengths that do not go together, or an answer of more than 64;");
        for (int op = 0; op <= 14; op++) {
            for (int n : new int[] {1, 2, 32, 63, 64}) {
                for (int m : new int[] {1, 2, 32, 63, 64}) {
                    boolean fits = op == 14 ? n + m <= 64 : n == m;
                    String found = Tried.found(Kit.two(op, Kit.row("1".repeat(n)), Kit.row("1".repeat(m))));
                    kit.same(op + " of " + n + " and " + m + ", a fault of lengths: " + found,
                            found.equals("fault 4") ? 1 : 0, fits ? 0 : 1);
                }
            }
        }
        two(12, "[X]", "[01]", "fault 4");
        two(8, "[X]", "[01]", "fault 4");
        two(6, "[X]", "[XX]", "fault 4");
    }

    private static void noElement() {
        kit.says(FAULTS, "6 an element that is not there;");
        for (int k : new int[] {-BIG, -64, -1, 4, 5, 63, 64, BIG}) {
            is(Kit.elem(Kit.sig(0), Kit.num(k)), "fault 6");
            is(Kit.elem(Kit.var(1), Kit.num(k)), "fault 6");
        }
        for (int k = 0; k < 4; k++) {
            is(Kit.elem(Kit.sig(0), Kit.num(k)), quoted("0101".charAt(k)));
        }
        StepCode x = new StepCode();
        x.variable(1, 64, 0);
        Kit.Tree ends = Kit.two(14, Kit.elem(Kit.var(0), Kit.num(63)), Kit.elem(Kit.var(0), Kit.num(0)));
        Kit.Tree beyond = Kit.elem(Kit.var(0), Kit.num(64));
        Kit.make(x, Kit.report(Kit.two(6, ends, Kit.row("HZ"))), Kit.report(Kit.two(6, beyond, Kit.logic('0'))));
        x.set(0, 0, 63, 7);
        x.set(0, 0, 0, 4);
        x.resume(0, 9);
        kit.same("elements 63 and 0 of 64", Kit.reports(x), "1");
        kit.same("element 64 of 64", Kit.fate(x, 0), "6 at " + beyond.number);
    }

    private static void beyond() {
        kit.says(FAULTS, "9 a NUMBER beyond (also of a row that is not CLEAR, or beyond);");
        two(12, "" + BIG, "0", "" + BIG);
        two(12, "" + BIG, "1", "fault 9");
        two(13, "" + -BIG, "0", "" + -BIG);
        two(13, "" + -BIG, "1", "fault 9");
        two(15, "" + BIG, "-1", "" + -BIG);
        two(15, "" + BIG, "2", "fault 9");
        is(Kit.t(84, 10, Kit.row("1".repeat(31))), "" + BIG);
        is(Kit.t(84, 10, Kit.row("L" + "H".repeat(31))), "" + BIG);
        is(Kit.t(84, 10, Kit.row("1" + "0".repeat(31))), "fault 9");
        is(Kit.t(84, 10, Kit.row("H" + "0".repeat(63))), "fault 9");
        is(Kit.t(84, 10, Kit.row("1".repeat(64))), "fault 9");
        for (char c : "UXZW-".toCharArray()) {
            is(Kit.t(84, 10, Kit.row("" + c)), "fault 9");
            is(Kit.t(84, 10, Kit.row("0" + c + "1")), "fault 9");
            is(Kit.t(84, 10, Kit.row(c + "0".repeat(63))), "fault 9");
        }
    }

    private static void byZero() {
        kit.says(FAULTS, "10 by 0;");
        for (int op = 16; op <= 18; op++) {
            for (int n : NUMBERS) {
                two(op, "" + n, "0", "fault 10");
            }
            two(op, "0", "1", "0");
            two(op, "0", "-1", "0");
        }
    }

    private static Kit.Tree fault10() {
        return Kit.two(16, Kit.num(1), Kit.num(0));
    }

    private static Kit.Tree fault9() {
        return Kit.two(12, Kit.num(BIG), Kit.num(1));
    }

    private static void leftToRight() {
        kit.says(FAULTS, "All is done from the left to the right, each expression behind those in it;");
        for (int op = 0; op <= 20; op++) {
            Kit.Tree first = fault10();
            faultAt(Kit.two(op, first, fault9()), 10, first);
            Kit.Tree left = fault9();
            faultAt(Kit.two(op, left, fault10()), 9, left);
            Kit.Tree second = fault10();
            faultAt(Kit.two(op, Kit.logic('1'), second), 10, second);
            Kit.Tree alone = fault9();
            faultAt(Kit.two(op, alone, Kit.logic('1')), 9, alone);
        }
        secondOperands();
        Kit.Tree index = fault10();
        faultAt(Kit.elem(Kit.var(1), index), 10, index);
        Kit.Tree under = fault9();
        faultAt(Kit.one(0, Kit.one(1, Kit.t(84, 11, under, Kit.num(4)))), 9, under);
        Kit.Tree row = Kit.two(14, Kit.row("1".repeat(64)), Kit.logic('0'));
        faultAt(Kit.two(16, Kit.t(84, 10, row), Kit.num(0)), 4, row);
    }

    /** Every kind of expression behind another one that is found before it and used behind it. */
    private static void secondOperands() {
        is(Kit.two(13, Kit.num(100), Kit.one(1, Kit.num(5))), "105");
        is(Kit.two(13, Kit.num(100), Kit.one(0, Kit.num(0))), "99");
        is(Kit.two(13, Kit.num(100), Kit.two(13, Kit.num(10), Kit.num(1))), "91");
        is(Kit.two(13, Kit.num(100), Kit.t(84, 10, Kit.row("11"))), "97");
        is(Kit.two(14, Kit.row("X-"), Kit.t(84, 11, Kit.num(5), Kit.num(3))), "[X-101]");
        is(Kit.two(14, Kit.row("X-"), Kit.elem(Kit.var(1), Kit.num(3))), "[X-1]");
        is(Kit.two(14, Kit.row("X-"), Kit.part(Kit.var(1), 1, 3)), "[X-10X]");
        is(Kit.two(14, Kit.row("X-"), Kit.t(85, 17, Kit.sig(0))), "[X-UUUU]");
        is(Kit.two(14, Kit.row("X-"), Kit.sig(0)), "[X-1010]");
        is(Kit.two(14, Kit.row("X-"), Kit.var(1)), "[X-10XU]");
        is(Kit.two(13, Kit.num(100), Kit.t(85, 15, Kit.sig(0))), "100");
        is(Kit.two(13, Kit.num(100), Kit.t(85, 16, Kit.sig(0))), "100");
        is(Kit.two(14, Kit.elem(Kit.var(1), Kit.one(3, Kit.num(-2))), Kit.elem(Kit.sig(0), Kit.one(2, Kit.num(1)))),
                "[01]");
        StepCode x = new StepCode();
        x.signal(2, 0, 9);
        x.signal(0, 0, 0);
        x.mark(1, true, true);
        x.put(1, false, 0, 3);
        x.put(1, true, 0, 2);
        Kit.make(x, Kit.report(Kit.two(13, Kit.num(100), Kit.t(84, 8, Kit.sig(1)))),
                Kit.report(Kit.two(13, Kit.num(100), Kit.t(84, 9, Kit.sig(1)))),
                Kit.report(Kit.two(13, Kit.num(100), Kit.t(85, 15, Kit.sig(1)))),
                Kit.report(Kit.two(13, Kit.num(100), Kit.t(85, 16, Kit.sig(1)))), Kit.pause());
        x.resume(0, 9);
        kit.same("of signals", Kit.reports(x), "99 100 99 99");
    }

    private static void faultAt(Kit.Tree expression, int fault, Kit.Tree at) {
        String found = Tried.found(expression);
        kit.same(text(expression), found, "fault " + fault + " at " + at.number);
    }

    private static void classesFirst() {
        kit.says(FAULTS, "of one node 3 comes before the others.");
        for (int op = 16; op <= 18; op++) {
            two(op, "'1'", "0", "fault 3");
            two(op, "[1]", "0", "fault 3");
        }
        two(14, "[" + "1".repeat(64) + "]", "1", "fault 3");
        two(14, "1", "[" + "1".repeat(64) + "]", "fault 3");
        for (int op = 0; op <= 13; op++) {
            two(op, "[" + "1".repeat(64) + "]", "'1'", "fault 3");
            two(op, "'1'", "[11]", "fault 3");
        }
    }
}
