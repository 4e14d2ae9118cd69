import java.util.ArrayList;
import java.util.List;

/**
 * The document once more, told as plainly as can be: rows are arrays of codes, faults are exceptions, and statements
 * are turned into lines with jumps. It shares nothing with StepCode, so that random runs can be compared.
 */
final class Model {
    static final class Obj {
        int is, a, b;
        int[] now, last;
        boolean event, active;
    }

    static final class Node {
        int kind, value, number, height;
        Node parent;
        List<Node> kids = new ArrayList<>();
    }

    static final class Val {
        int is;
        long n;
        int[] e;
    }

    static final class Fault extends RuntimeException {
        private static final long serialVersionUID = 1;
        final int code;
        final int node;

        Fault(int code, Node at) {
            this.code = code;
            this.node = at.number;
        }
    }

    interface Work {
        void run();
    }

    static final class Line {
        boolean step;
        Work work;
    }

    static final class Act {
        boolean report;
        int subject, first, many, mode;
        long limit;
        List<Val> values = new ArrayList<>();
        List<Long> delays = new ArrayList<>();
    }

    static final class Proc {
        List<Obj> vars;
        List<Line> lines = new ArrayList<>();
        int pc;
        int state, fault, faultNode = -1;
        long steps, until = -1;
        Node wait;
        int nodes;
    }

    private final List<Obj> signals = new ArrayList<>();
    private List<Obj> vars = new ArrayList<>();
    private List<Node> nodes = new ArrayList<>();
    private final List<Node> roots = new ArrayList<>();
    private final List<Proc> procs = new ArrayList<>();
    private List<Act> acts = new ArrayList<>();
    private Proc p;

    // ---- objects

    private static Obj obj(int is, int a, int b) {
        boolean ok = is == 0 && a == 0 && b == 0 || is == 1 && a >= 1 && a <= 64 && b == 0
                || is == 2 && a <= b && a != Integer.MIN_VALUE;
        if (!ok) {
            throw new IllegalArgumentException();
        }
        Obj o = new Obj();
        o.is = is;
        o.a = a;
        o.b = b;
        o.now = new int[is == 1 ? a : 1];
        o.last = new int[o.now.length];
        if (is == 2) {
            o.now[0] = a;
            o.last[0] = a;
        }
        return o;
    }

    int signal(int is, int a, int b) {
        Obj o = obj(is, a, b);
        if (signals.size() == 512) {
            throw new IllegalStateException();
        }
        signals.add(o);
        return signals.size() - 1;
    }

    int variable(int is, int a, int b) {
        Obj o = obj(is, a, b);
        if (vars.size() == 128) {
            throw new IllegalStateException();
        }
        vars.add(o);
        return vars.size() - 1;
    }

    private static <T> T at(List<T> list, int i) {
        if (i < 0 || i >= list.size()) {
            throw new IndexOutOfBoundsException();
        }
        return list.get(i);
    }

    private static void change(Obj o, int[] row, int k, int value) {
        if (k < 0 || k >= row.length) {
            throw new IndexOutOfBoundsException();
        }
        if (o.is == 2 ? value < o.a || value > o.b : value < 0 || value > 8) {
            throw new IllegalArgumentException();
        }
        row[k] = value;
    }

    private static int read(Obj o, int k) {
        if (k < 0 || k >= o.now.length) {
            throw new IndexOutOfBoundsException();
        }
        return o.now[k];
    }

    void put(int s, boolean last, int k, int value) {
        Obj o = at(signals, s);
        change(o, last ? o.last : o.now, k, value);
    }

    void mark(int s, boolean event, boolean active) {
        Obj o = at(signals, s);
        o.event = event;
        o.active = active;
    }

    int get(int s, int k) {
        return read(at(signals, s), k);
    }

    void set(int proc, int v, int k, int value) {
        Obj o = at(at(procs, proc).vars, v);
        change(o, o.now, k, value);
    }

    int variableOf(int proc, int v, int k) {
        return read(at(at(procs, proc).vars, v), k);
    }

    // ---- trees

    int add(int kind, int value, int n) {
        if (kind < 0 || kind > 99 || n < 0 || n > roots.size()) {
            throw new IllegalArgumentException();
        }
        if (nodes.size() == 4000) {
            throw new IllegalStateException();
        }
        Node node = new Node();
        node.kind = kind;
        node.value = value;
        node.number = nodes.size();
        node.height = 1;
        for (int i = 0; i < n; i++) {
            Node kid = roots.remove(roots.size() - n + i);
            kid.parent = node;
            node.kids.add(kid);
            node.height = Math.max(node.height, kid.height + 1);
        }
        nodes.add(node);
        roots.add(node);
        return node.number;
    }

    int processes() {
        return procs.size();
    }

    int process() {
        int total = nodes.size();
        for (Proc q : procs) {
            total += q.nodes;
        }
        if (procs.size() == 64 || total > 20000) {
            throw new IllegalStateException();
        }
        int answer = 0;
        for (Node node : nodes) {
            if (answer == 0 && (node.height > 100 || !right(node))) {
                answer = -1 - node.number;
            }
        }
        if (answer == 0) {
            if (roots.size() == 1 && isList(roots.get(0), "S")) {
                Proc made = new Proc();
                made.vars = vars;
                made.nodes = nodes.size();
                translate(made, roots.get(0));
                answer = procs.size();
                procs.add(made);
            } else {
                answer = nodes.isEmpty() ? -1 : -1 - nodes.get(nodes.size() - 1).number;
            }
        }
        vars = new ArrayList<>();
        nodes = new ArrayList<>();
        roots.clear();
        return answer;
    }

    private Obj objOf(Node n) {
        List<Obj> from = n.kind == 80 ? signals : n.kind == 81 ? vars : new ArrayList<>();
        return n.value >= 0 && n.value < from.size() ? from.get(n.value) : null;
    }

    private boolean objIs(Node n, int is) {
        Obj o = objOf(n);
        return o != null && o.is == is;
    }

    private static boolean isList(Node n, String shape) {
        if (n.kind != 48) {
            return false;
        }
        for (Node kid : n.kids) {
            if (!shape.contains(String.valueOf(letter(kid)))) {
                return false;
            }
        }
        return true;
    }

    /** A letter for each sort of node: an expression may be more than one sort, and E stands for the rest of them. */
    private static char letter(Node n) {
        switch (n.kind) {
            case 2: return 'n';
            case 3: return 'l';
            case 4: return 'r';
            case 80: return 's';
            case 81: return 'v';
            case 82: case 83: return n.kids.isEmpty() ? 'E' : n.kids.get(0).kind == 80 ? 'p' : 'q';
            case 20: case 21: case 84: case 85: return 'E';
            case 0: return '0';
            case 37: return 'o';
            case 32: return 't';
            case 31: return 'w';
            case 36: return 'c';
            case 48: return isList(n, "S") ? 'L' : 'x';
            case 30: case 33: case 34: case 35: case 38: case 39: case 40: case 41: case 42: case 43: case 44:
            case 45: case 46: case 47: return 'S';
            default: return 'x';
        }
    }

    private boolean right(Node n) {
        StringBuilder made = new StringBuilder();
        for (Node kid : n.kids) {
            made.append(letter(kid));
        }
        String kids = made.toString();
        String e = "[nlrsvpqE]";
        int v = n.value;
        boolean plain = v == 0;
        switch (n.kind) {
            case 2: return kids.isEmpty() && v != Integer.MIN_VALUE;
            case 3: return kids.isEmpty() && v >= 0 && v <= 8;
            case 4: return plain && kids.matches("l{1,64}");
            case 80: case 81: return kids.isEmpty() && objOf(n) != null;
            case 82: return plain && kids.matches("[sv]" + e) && objIs(n.kids.get(0), 1);
            case 83: {
                if (!plain || !kids.matches("[sv]nn") || !objIs(n.kids.get(0), 1)) {
                    return false;
                }
                long first = n.kids.get(1).value;
                long many = n.kids.get(2).value;
                return first >= 0 && many >= 1 && first + many <= objOf(n.kids.get(0)).a;
            }
            case 84:
                return v == 8 && kids.equals("s") && objIs(n.kids.get(0), 0)
                        || v == 9 && kids.equals("s") && objIs(n.kids.get(0), 0)
                        || v == 10 && kids.matches(e)
                        || v == 11 && kids.matches(e + "n") && n.kids.get(1).value >= 1 && n.kids.get(1).value <= 64;
            case 85: return v >= 15 && v <= 17 && kids.equals("s");
            case 20: return v >= 0 && v <= 3 && kids.matches(e);
            case 21: return v >= 0 && v <= 20 && kids.matches(e + e);
            case 0: case 37: case 45: return plain && kids.isEmpty();
            case 32: return v >= 1 && v <= 1000000 && kids.matches(e);
            case 48: return plain;
            case 30: return (v == 0 || v == 1) && kids.matches("[sp]w{1,16}") || v == 2 && kids.matches("[sp]tw{1,16}");
            case 31: return plain && kids.matches(e + "[t0]");
            case 33: return plain && kids.matches("[vq]" + e);
            case 34: return plain && kids.matches("(" + e + "L)+L?");
            case 35: return plain && kids.matches(e + "c+");
            case 36: return plain && kids.matches("[xL]L") && isList(n.kids.get(0), "nlro")
                    && !n.kids.get(0).kids.isEmpty();
            case 38: case 39: return plain && kids.matches("v" + e + e + "L") && objIs(n.kids.get(0), 2);
            case 40: return plain && kids.matches(e + "L");
            case 41: return plain && kids.equals("L");
            case 42: case 43: {
                boolean in = false;
                for (Node up = n.parent; up != null; up = up.parent) {
                    in |= up.kind >= 38 && up.kind <= 41;
                }
                return plain && in && (kids.matches(e) || kids.equals("0"));
            }
            case 44: return plain && (kids.matches("[xL]" + e + "[t0]") || kids.matches("[xL]0[t0]"))
                    && isList(n.kids.get(0), "s");
            case 46: return plain && kids.matches(e);
            case 47: return plain && kids.matches(e + e);
            default: return false;
        }
    }

    // ---- lines

    private static Line line(Proc q, boolean step) {
        Line made = new Line();
        made.step = step;
        q.lines.add(made);
        return made;
    }

    private void translate(Proc q, Node body) {
        line(q, true).work = () -> { };
        block(q, body, new ArrayList<>(), new ArrayList<>());
        line(q, false).work = () -> p.pc = 0;
    }

    private void block(Proc q, Node list, List<int[]> looks, List<int[]> ends) {
        for (Node kid : list.kids) {
            statement(q, kid, looks, ends);
        }
    }

    private void loop(Proc q, Node body, Line look, int[] end, List<int[]> looks, List<int[]> ends) {
        int[] start = {q.lines.indexOf(look)};
        List<int[]> innerLooks = new ArrayList<>(looks);
        innerLooks.add(start);
        List<int[]> innerEnds = new ArrayList<>(ends);
        innerEnds.add(end);
        block(q, body, innerLooks, innerEnds);
        line(q, false).work = () -> p.pc = start[0];
        end[0] = q.lines.size();
    }

    private void statement(Proc q, Node n, List<int[]> looks, List<int[]> ends) {
        Line begin = line(q, true);
        int[] end = new int[1];
        switch (n.kind) {
            case 30:
                begin.work = () -> assign(n);
                break;
            case 33:
                begin.work = () -> let(n);
                break;
            case 34: case 35:
                branches(q, n, begin, end, looks, ends);
                break;
            case 38: case 39: {
                long[] count = new long[2];
                begin.work = () -> {
                    count[0] = number(n.kids.get(1), n);
                    count[1] = number(n.kids.get(2), n);
                };
                Line look = line(q, true);
                int by = n.kind == 38 ? 1 : -1;
                look.work = () -> {
                    if (count[0] * by > count[1] * by) {
                        p.pc = end[0];
                        return;
                    }
                    Obj o = p.vars.get(n.kids.get(0).value);
                    if (count[0] < o.a || count[0] > o.b) {
                        throw new Fault(8, n);
                    }
                    o.now[0] = (int) count[0];
                    count[0] += by;
                };
                loop(q, n.kids.get(3), look, end, looks, ends);
                break;
            }
            case 40: {
                begin.work = () -> { };
                Line look = line(q, true);
                look.work = () -> p.pc = number(n.kids.get(0), n) != 0 ? p.pc : end[0];
                loop(q, n.kids.get(1), look, end, looks, ends);
                break;
            }
            case 41: {
                begin.work = () -> { };
                Line look = line(q, true);
                look.work = () -> { };
                loop(q, n.kids.get(0), look, end, looks, ends);
                break;
            }
            case 42: case 43: {
                List<int[]> where = n.kind == 42 ? ends : looks;
                int[] to = where.get(where.size() - 1);
                begin.work = () -> {
                    if (n.kids.get(0).kind == 0 || number(n.kids.get(0), n) != 0) {
                        p.pc = to[0];
                    }
                };
                break;
            }
            case 44:
                begin.work = () -> {
                    p.until = n.kids.get(2).kind == 0 ? -1 : time(n.kids.get(2));
                    p.wait = n;
                };
                break;
            case 46:
                begin.work = () -> tell(n, number(n.kids.get(0), n));
                break;
            case 47:
                begin.work = () -> {
                    if (number(n.kids.get(0), n) == 0) {
                        tell(n, number(n.kids.get(1), n));
                    }
                };
                break;
            default:
                begin.work = () -> { };
        }
    }

    private void branches(Proc q, Node n, Line begin, int[] end, List<int[]> looks, List<int[]> ends) {
        List<Node> blocks = new ArrayList<>();
        if (n.kind == 34) {
            for (int i = 1; i < n.kids.size(); i += 2) {
                blocks.add(n.kids.get(i));
            }
            if (n.kids.size() % 2 == 1) {
                blocks.add(n.kids.get(n.kids.size() - 1));
            }
        } else {
            for (int i = 1; i < n.kids.size(); i++) {
                blocks.add(n.kids.get(i).kids.get(1));
            }
        }
        int[] starts = new int[blocks.size()];
        for (int i = 0; i < starts.length; i++) {
            starts[i] = q.lines.size();
            block(q, blocks.get(i), looks, ends);
            line(q, false).work = () -> p.pc = end[0];
        }
        end[0] = q.lines.size();
        begin.work = () -> {
            int to = n.kind == 34 ? whichIf(n) : whichCase(n);
            p.pc = to < 0 ? end[0] : starts[to];
        };
    }

    private int whichIf(Node n) {
        int pairs = n.kids.size() / 2;
        for (int i = 0; i < pairs; i++) {
            if (number(n.kids.get(2 * i), n) != 0) {
                return i;
            }
        }
        return n.kids.size() % 2 == 1 ? pairs : -1;
    }

    private int whichCase(Node n) {
        Val v = eval(n.kids.get(0));
        for (int i = 1; i < n.kids.size(); i++) {
            Node choice = n.kids.get(i);
            for (Node item : choice.kids.get(0).kids) {
                if (item.kind == 37) {
                    return i - 1;
                }
                Val w = eval(item);
                match(v, w, choice);
                if (equal(v, w)) {
                    return i - 1;
                }
            }
        }
        throw new Fault(15, n);
    }

    private void tell(Node n, long what) {
        room(n, 0);
        Act act = new Act();
        act.report = true;
        act.subject = (int) what;
        acts.add(act);
    }

    private void room(Node n, int more) {
        int values = more;
        for (Act act : acts) {
            values += act.values.size();
        }
        if (acts.size() == 200 || values > 500) {
            throw new Fault(14, n);
        }
    }

    /** What a target is: the first element and how many, or null for all of what is no row. */
    private int[] place(Node target) {
        if (target.kind == 82) {
            Obj o = run(target.kids.get(0));
            Val v = eval(target.kids.get(1));
            if (v.is != 2) {
                throw new Fault(3, target);
            }
            if (v.n < 0 || v.n >= o.a) {
                throw new Fault(6, target);
            }
            return new int[] {(int) v.n, 1};
        }
        if (target.kind == 83) {
            return new int[] {target.kids.get(1).value, target.kids.get(2).value};
        }
        return new int[] {0, run(target).now.length};
    }

    private Obj run(Node n) {
        Node of = n.kind == 80 || n.kind == 81 ? n : n.kids.get(0);
        return of.kind == 80 ? signals.get(of.value) : p.vars.get(of.value);
    }

    private void fit(Val v, Node target, int many, Node at) {
        Obj o = run(target);
        int is = target.kind == 82 ? 0 : o.is;
        if (v.is != is) {
            throw new Fault(3, at);
        }
        if (is == 1 && v.e.length != many) {
            throw new Fault(4, at);
        }
        if (is == 2 && (v.n < o.a || v.n > o.b)) {
            throw new Fault(8, at);
        }
    }

    private void assign(Node n) {
        Node target = n.kids.get(0);
        int[] place = place(target);
        Act act = new Act();
        act.subject = target.kind == 80 ? target.value : target.kids.get(0).value;
        act.first = place[0];
        act.many = place[1];
        act.mode = n.value;
        int from = 1;
        if (n.value == 2) {
            act.limit = time(n.kids.get(1));
            from = 2;
        }
        for (Node wave : n.kids.subList(from, n.kids.size())) {
            Val v = eval(wave.kids.get(0));
            fit(v, target, place[1], wave);
            act.values.add(v);
            act.delays.add(wave.kids.get(1).kind == 0 ? 0 : time(wave.kids.get(1)));
        }
        for (int i = 1; i < act.delays.size(); i++) {
            if (act.delays.get(i) <= act.delays.get(i - 1)) {
                throw new Fault(13, n);
            }
        }
        if (act.limit > act.delays.get(0)) {
            throw new Fault(13, n);
        }
        room(n, act.values.size());
        acts.add(act);
    }

    private void let(Node n) {
        Node target = n.kids.get(0);
        int[] place = place(target);
        Val v = eval(n.kids.get(1));
        fit(v, target, place[1], n);
        Obj o = run(target);
        if (v.is == 2) {
            o.now[0] = (int) v.n;
        } else {
            for (int k = 0; k < v.e.length; k++) {
                o.now[place[0] + k] = v.e[k];
            }
        }
    }

    // ---- expressions

    private static Val numberOf(long n) {
        Val v = new Val();
        v.is = 2;
        v.n = n;
        return v;
    }

    private static Val truth(boolean b) {
        return numberOf(b ? 1 : 0);
    }

    private static Val elements(int is, int[] e) {
        Val v = new Val();
        v.is = is;
        v.e = e;
        return v;
    }

    private static Val of(Obj o, int[] e) {
        return o.is == 2 ? numberOf(e[0]) : elements(o.is, e.clone());
    }

    private long number(Node n, Node at) {
        Val v = eval(n);
        if (v.is != 2) {
            throw new Fault(3, at);
        }
        return v.n;
    }

    private long time(Node n) {
        long v = number(n.kids.get(0), n);
        if (v < 0) {
            throw new Fault(8, n);
        }
        return v * n.value;
    }

    private static void match(Val a, Val b, Node at) {
        if (a.is != b.is) {
            throw new Fault(3, at);
        }
        if (a.is == 1 && a.e.length != b.e.length) {
            throw new Fault(4, at);
        }
    }

    private static boolean equal(Val a, Val b) {
        return a.is == 2 ? a.n == b.n : java.util.Arrays.equals(a.e, b.e);
    }

    private static boolean low(int c) {
        return c == 2 || c == 6;
    }

    private static boolean high(int c) {
        return c == 3 || c == 7;
    }

    static int not(int c) {
        return c == 0 ? 0 : low(c) ? 3 : high(c) ? 2 : 1;
    }

    static int pair(int op, int a, int b) {
        switch (op) {
            case 0:
                return low(a) || low(b) ? 2 : a == 0 || b == 0 ? 0 : high(a) && high(b) ? 3 : 1;
            case 1:
                return high(a) || high(b) ? 3 : a == 0 || b == 0 ? 0 : low(a) && low(b) ? 2 : 1;
            case 4:
                return a == 0 || b == 0 ? 0 : !(low(a) || high(a)) || !(low(b) || high(b)) ? 1
                        : high(a) != high(b) ? 3 : 2;
            default:
                return not(pair(op == 5 ? 4 : op - 2, a, b));
        }
    }

    /** The number of a row, null when it is not CLEAR. */
    private static java.math.BigInteger weigh(int[] e) {
        java.math.BigInteger sum = java.math.BigInteger.ZERO;
        for (int k = 0; k < e.length; k++) {
            if (!low(e[k]) && !high(e[k])) {
                return null;
            }
            if (high(e[k])) {
                sum = sum.add(java.math.BigInteger.TWO.pow(k));
            }
        }
        return sum;
    }

    private static java.math.BigInteger unsigned(long n) {
        java.math.BigInteger b = java.math.BigInteger.valueOf(n);
        return n < 0 ? b.add(java.math.BigInteger.TWO.pow(64)) : b;
    }

    private static Val bits(java.math.BigInteger n, int length) {
        int[] e = new int[length];
        for (int k = 0; k < length; k++) {
            e[k] = n.testBit(k) ? 3 : 2;
        }
        return elements(1, e);
    }

    private Val eval(Node n) {
        switch (n.kind) {
            case 2: return numberOf(n.value);
            case 3: return elements(0, new int[] {n.value});
            case 4: {
                int[] e = new int[n.kids.size()];
                for (int i = 0; i < e.length; i++) {
                    e[e.length - 1 - i] = n.kids.get(i).value;
                }
                return elements(1, e);
            }
            case 80: case 81: {
                Obj o = run(n);
                return of(o, o.now);
            }
            case 82: {
                int[] place = place(n);
                return elements(0, new int[] {run(n).now[place[0]]});
            }
            case 83: {
                int[] place = place(n);
                return elements(1, java.util.Arrays.copyOfRange(run(n).now, place[0], place[0] + place[1]));
            }
            case 84: return function(n);
            case 85: {
                Obj o = signals.get(n.kids.get(0).value);
                return n.value == 15 ? truth(o.event) : n.value == 16 ? truth(o.active) : of(o, o.last);
            }
            case 20: return one(n, eval(n.kids.get(0)));
            default: {
                Val a = eval(n.kids.get(0));
                Val b = eval(n.kids.get(1));
                return two(n, a, b);
            }
        }
    }

    private Val function(Node n) {
        if (n.value == 8 || n.value == 9) {
            Obj o = signals.get(n.kids.get(0).value);
            int now = o.now[0];
            int last = o.last[0];
            return truth(o.event && (n.value == 8 ? high(now) && low(last) : low(now) && high(last)));
        }
        Val v = eval(n.kids.get(0));
        if (v.is != (n.value == 10 ? 1 : 2)) {
            throw new Fault(3, n);
        }
        if (n.value == 11) {
            return bits(unsigned(v.n), n.kids.get(1).value);
        }
        java.math.BigInteger b = weigh(v.e);
        if (b == null || b.bitLength() > 31) {
            throw new Fault(9, n);
        }
        return numberOf(b.longValueExact());
    }

    private static Val one(Node n, Val v) {
        if (v.is == 2) {
            return n.value == 0 ? truth(v.n == 0) : numberOf(n.value == 1 ? -v.n : n.value == 2 ? v.n : Math.abs(v.n));
        }
        if (n.value != 0) {
            throw new Fault(3, n);
        }
        int[] e = v.e.clone();
        for (int k = 0; k < e.length; k++) {
            e[k] = not(e[k]);
        }
        return elements(v.is, e);
    }

    private static Val two(Node n, Val a, Val b) {
        int op = n.value;
        boolean numbers = a.is == 2 && b.is == 2;
        if (op <= 5) {
            match(a, b, n);
            if (numbers) {
                int c = pair(op, a.n != 0 ? 3 : 2, b.n != 0 ? 3 : 2);
                return truth(c == 3);
            }
            int[] e = new int[a.e.length];
            for (int k = 0; k < e.length; k++) {
                e[k] = pair(op, a.e[k], b.e[k]);
            }
            return elements(a.is, e);
        }
        if (op <= 7) {
            match(a, b, n);
            return truth(equal(a, b) == (op == 6));
        }
        if (op <= 11) {
            match(a, b, n);
            if (a.is == 0) {
                throw new Fault(3, n);
            }
            java.math.BigInteger x = numbers ? java.math.BigInteger.valueOf(a.n) : weigh(a.e);
            java.math.BigInteger y = numbers ? java.math.BigInteger.valueOf(b.n) : weigh(b.e);
            if (x == null || y == null) {
                return truth(false);
            }
            int c = x.compareTo(y);
            return truth(op == 8 ? c < 0 : op == 9 ? c <= 0 : op == 10 ? c > 0 : c >= 0);
        }
        if (op <= 13 && !numbers) {
            return rowSum(n, a, b);
        }
        if (op == 14) {
            if (a.is == 2 || b.is == 2) {
                throw new Fault(3, n);
            }
            int[] e = new int[a.e.length + b.e.length];
            System.arraycopy(b.e, 0, e, 0, b.e.length);
            System.arraycopy(a.e, 0, e, b.e.length, a.e.length);
            if (e.length > 64) {
                throw new Fault(4, n);
            }
            return elements(1, e);
        }
        if (op >= 19) {
            if (a.is != 1 || b.is != 2) {
                throw new Fault(3, n);
            }
            int[] e = new int[a.e.length];
            for (int k = 0; k < e.length; k++) {
                long from = op == 19 ? k - b.n : k + b.n;
                e[k] = from >= 0 && from < e.length ? a.e[(int) from] : 2;
            }
            return elements(1, e);
        }
        return arithmetic(n, a, b);
    }

    private static Val rowSum(Node n, Val a, Val b) {
        if (a.is == 0 || b.is == 0) {
            throw new Fault(3, n);
        }
        if (a.is == 1 && b.is == 1 && a.e.length != b.e.length) {
            throw new Fault(4, n);
        }
        int length = a.is == 1 ? a.e.length : b.e.length;
        java.math.BigInteger x = a.is == 1 ? weigh(a.e) : unsigned(a.n);
        java.math.BigInteger y = b.is == 1 ? weigh(b.e) : unsigned(b.n);
        if (x == null || y == null) {
            int[] e = new int[length];
            java.util.Arrays.fill(e, 1);
            return elements(1, e);
        }
        java.math.BigInteger sum = n.value == 12 ? x.add(y) : x.subtract(y);
        return bits(sum.mod(java.math.BigInteger.TWO.pow(length)), length);
    }

    private static Val arithmetic(Node n, Val a, Val b) {
        if (a.is != 2 || b.is != 2) {
            throw new Fault(3, n);
        }
        if (n.value >= 16 && b.n == 0) {
            throw new Fault(10, n);
        }
        long c;
        switch (n.value) {
            case 12: c = a.n + b.n; break;
            case 13: c = a.n - b.n; break;
            case 15: c = a.n * b.n; break;
            case 16: c = Math.abs(a.n) / Math.abs(b.n) * Long.signum(a.n) * Long.signum(b.n); break;
            case 17: {
                c = Math.abs(a.n) % Math.abs(b.n) * Long.signum(a.n);
                if (c != 0 && c < 0 != b.n < 0) {
                    c += b.n;
                }
                break;
            }
            default: c = Math.abs(a.n) % Math.abs(b.n) * Long.signum(a.n);
        }
        if (Math.abs(c) > Integer.MAX_VALUE) {
            throw new Fault(9, n);
        }
        return numberOf(c);
    }

    // ---- what is told

    int resume(int proc, int steps) {
        Proc q = at(procs, proc);
        if (steps < 1 || steps > 10000) {
            throw new IllegalArgumentException();
        }
        if (q.state >= 2) {
            throw new IllegalStateException();
        }
        acts = new ArrayList<>();
        p = q;
        q.wait = null;
        q.until = -1;
        int made = 0;
        while (true) {
            Line line = q.lines.get(q.pc);
            if (line.step) {
                if (made == steps) {
                    q.state = 2;
                    return 2;
                }
                made++;
                q.steps = Math.min(q.steps + 1, Integer.MAX_VALUE);
            }
            q.pc++;
            try {
                line.work.run();
            } catch (Fault f) {
                return fault(q, f);
            }
            if (q.wait != null) {
                q.state = 1;
                return 1;
            }
        }
    }

    private static int fault(Proc q, Fault f) {
        q.state = 3;
        q.fault = f.code;
        q.faultNode = f.node;
        q.wait = null;
        q.until = -1;
        return 3;
    }

    int holds(int proc) {
        Proc q = at(procs, proc);
        if (q.state != 1) {
            throw new IllegalStateException();
        }
        p = q;
        if (q.wait.kids.get(1).kind == 0) {
            return 1;
        }
        try {
            return number(q.wait.kids.get(1), q.wait) != 0 ? 1 : 0;
        } catch (Fault f) {
            fault(q, f);
            return 2;
        }
    }

    int about(int proc, int what) {
        Proc q = at(procs, proc);
        switch (what) {
            case 0: return q.state;
            case 1: return q.fault;
            case 2: return q.faultNode;
            case 3: return q.wait == null ? 0 : q.wait.kids.get(0).kids.size();
            case 4: return q.wait == null || q.wait.kids.get(1).kind == 0 ? 0 : 1;
            case 5: return (int) q.steps;
            default: throw new IllegalArgumentException();
        }
    }

    int waits(int proc, int i) {
        Proc q = at(procs, proc);
        return at(q.wait == null ? new ArrayList<Node>() : q.wait.kids.get(0).kids, i).value;
    }

    long until(int proc) {
        return at(procs, proc).until;
    }

    int acts() {
        return acts.size();
    }

    int act(int i, int what) {
        Act act = at(acts, i);
        switch (what) {
            case 0: return act.report ? 1 : 0;
            case 1: return act.subject;
            case 2: return act.first;
            case 3: return act.many;
            case 4: return act.mode;
            case 5: return act.values.size();
            default: throw new IllegalArgumentException();
        }
    }

    int value(int i, int w, int k) {
        Val v = at(at(acts, i).values, w);
        int[] e = v.is == 2 ? new int[] {(int) v.n} : v.e;
        if (k < 0 || k >= e.length) {
            throw new IndexOutOfBoundsException();
        }
        return e[k];
    }

    long delay(int i, int w) {
        Act act = at(acts, i);
        if (act.report) {
            throw new IndexOutOfBoundsException();
        }
        return w == -1 ? act.limit : at(act.delays, w);
    }
}
