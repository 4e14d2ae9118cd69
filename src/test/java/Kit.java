import java.io.IOException;
import java.nio.file.Files;
import java.nio.file.Path;
import java.util.ArrayList;
import java.util.List;

/** What the tests share: trees to be planted, answers to be compared, and the count of wrong ones. */
final class Kit {
    static final String CODES = "UX01ZWLH-";
    static final int BIG = Integer.MAX_VALUE;
    static final Class<? extends RuntimeException> INDEX = IndexOutOfBoundsException.class;
    static final Class<? extends RuntimeException> ARGUMENT = IllegalArgumentException.class;
    static final Class<? extends RuntimeException> STATE = IllegalStateException.class;

    private static final Path DOCUMENT = Path.of("../shared/DOC.md");

    private final String title;
    private final List<String> sentences = new ArrayList<>();
    private String said = "";
    private String document;
    private int wrong;
    private int looked;
    private int lookedBefore;

    Kit(String title) {
        this.title = title;
        // A call that throws where none is due ends the test; which sentence it was for is told even so.
        Thread.currentThread().setUncaughtExceptionHandler((thread, thrown) -> {
            System.out.println(title + ": " + said + "threw " + thrown);
            thrown.printStackTrace();
        });
    }

    /** From here on, answers belong to this sentence, which stands in the document word for word. */
    void says(String where, String sentence) {
        endOfSentence();
        said = where + " says \"" + sentence + "\": ";
        sentences.add(where);
        same("the words are the document's", isQuoted(sentence) ? 1 : 0, 1);
        lookedBefore = looked;
    }

    /** A sentence that is quoted but not looked at is no test. */
    private void endOfSentence() {
        if (!said.isEmpty()) {
            same("something is looked at", looked > lookedBefore ? 1 : 0, 1);
        }
        said = "";
    }

    boolean hasSaid(String where) {
        return sentences.contains(where);
    }

    /** Without the document the words can't be compared; what they ask for can. */
    private boolean isQuoted(String sentence) {
        if (document == null) {
            try {
                document = Files.readString(DOCUMENT);
            } catch (IOException e) {
                document = "";
                System.out.println(title + ": " + DOCUMENT + " can't be read, its words are not compared");
            }
        }
        return document.isEmpty() || document.contains(sentence);
    }

    interface Call {
        void run();
    }

    void same(String what, long got, long want) {
        looked++;
        if (got != want) {
            wrong++;
            System.out.println(title + ": " + said + what + " answered " + got + ", due is " + want);
        }
    }

    void same(String what, String got, String want) {
        looked++;
        if (!got.equals(want)) {
            wrong++;
            System.out.println(title + ": " + said + what + " answered " + got + ", due is " + want);
        }
    }

    void fails(String what, Class<? extends RuntimeException> want, Call call) {
        looked++;
        String got = "nothing";
        try {
            call.run();
        } catch (RuntimeException e) {
            // The very class counts: the machine's own exceptions are below those that the document names.
            got = e.getClass().getSimpleName();
        }
        if (!got.equals(want.getSimpleName())) {
            wrong++;
            System.out.println(title + ": " + said + what + " threw " + got + ", due is " + want.getSimpleName());
        }
    }

    void end() {
        endOfSentence();
        String of = sentences.isEmpty() ? "" : " of " + sentences.size() + " sentences";
        System.out.println(title + ": " + looked + " answers" + of + ", " + wrong + " not as due");
        if (wrong != 0 || looked == 0) {
            System.exit(1);
        }
    }

    /** A tree that is not planted yet; its number is known when it is. */
    static final class Tree {
        int kind;
        int value;
        final List<Tree> kids = new ArrayList<>();
        int number = -1;

        Tree(int kind, int value, Tree... kids) {
            this.kind = kind;
            this.value = value;
            this.kids.addAll(List.of(kids));
        }

        int plant(StepCode x) {
            for (Tree kid : kids) {
                kid.plant(x);
            }
            number = x.add(kind, value, kids.size());
            return number;
        }

        void collect(List<Tree> all) {
            for (Tree kid : kids) {
                kid.collect(all);
            }
            all.add(this);
        }
    }

    static Tree t(int kind, int value, Tree... kids) {
        return new Tree(kind, value, kids);
    }

    static Tree num(int n) {
        return t(2, n);
    }

    static Tree logic(char c) {
        return t(3, CODES.indexOf(c));
    }

    static Tree row(String text) {
        Tree row = t(4, 0);
        for (char c : text.toCharArray()) {
            row.kids.add(logic(c));
        }
        return row;
    }

    static Tree sig(int n) {
        return t(80, n);
    }

    static Tree var(int n) {
        return t(81, n);
    }

    static Tree elem(Tree of, Tree which) {
        return t(82, 0, of, which);
    }

    static Tree part(Tree of, int first, int many) {
        return t(83, 0, of, num(first), num(many));
    }

    static Tree one(int op, Tree a) {
        return t(20, op, a);
    }

    static Tree two(int op, Tree a, Tree b) {
        return t(21, op, a, b);
    }

    static Tree nothing() {
        return t(0, 0);
    }

    static Tree others() {
        return t(37, 0);
    }

    static Tree time(int unit, Tree n) {
        return t(32, unit, n);
    }

    static Tree list(Tree... kids) {
        return t(48, 0, kids);
    }

    static Tree wave(Tree value) {
        return t(31, 0, value, nothing());
    }

    static Tree wave(Tree value, int delay) {
        return t(31, 0, value, time(1, num(delay)));
    }

    static Tree assign(int mode, Tree... kids) {
        return t(30, mode, kids);
    }

    static Tree let(Tree target, Tree value) {
        return t(33, 0, target, value);
    }

    static Tree choose(Tree... kids) {
        return t(34, 0, kids);
    }

    static Tree cases(Tree... kids) {
        return t(35, 0, kids);
    }

    static Tree choice(Tree list, Tree... statements) {
        return t(36, 0, list, list(statements));
    }

    static Tree up(Tree variable, Tree from, Tree to, Tree... statements) {
        return t(38, 0, variable, from, to, list(statements));
    }

    static Tree down(Tree variable, Tree from, Tree to, Tree... statements) {
        return t(39, 0, variable, from, to, list(statements));
    }

    static Tree loopWhile(Tree expression, Tree... statements) {
        return t(40, 0, expression, list(statements));
    }

    static Tree loop(Tree... statements) {
        return t(41, 0, list(statements));
    }

    static Tree exit(Tree when) {
        return t(42, 0, when);
    }

    static Tree next(Tree when) {
        return t(43, 0, when);
    }

    static Tree pause() {
        return t(44, 0, list(), nothing(), nothing());
    }

    static Tree pause(Tree signals, Tree expression, Tree time) {
        return t(44, 0, signals, expression, time);
    }

    static Tree skip() {
        return t(45, 0);
    }

    static Tree report(Tree what) {
        return t(46, 0, what);
    }

    static Tree check(Tree that, Tree what) {
        return t(47, 0, that, what);
    }

    static int make(StepCode x, Tree... statements) {
        list(statements).plant(x);
        return x.process();
    }

    /** The elements of a row of a variable, from the left. */
    static String rowOf(StepCode x, int process, int variable, int n) {
        StringBuilder text = new StringBuilder();
        for (int k = n - 1; k >= 0; k--) {
            text.append(CODES.charAt(x.variableOf(process, variable, k)));
        }
        return text.toString();
    }

    /** The reports of the last resumption. */
    static String reports(StepCode x) {
        StringBuilder text = new StringBuilder();
        for (int i = 0; i < x.acts(); i++) {
            if (x.act(i, 0) == 1) {
                text.append(text.length() == 0 ? "" : " ").append(x.act(i, 1));
            }
        }
        return text.toString();
    }

    /** What a process has become: its state, its fault and where. */
    static String fate(StepCode x, int process) {
        int state = x.about(process, 0);
        return state == StepCode.FAULTED ? x.about(process, 1) + " at " + x.about(process, 2)
                : state == StepCode.STOPPED ? "stopped" : state == StepCode.WAITS ? "waits" : "new";
    }
}
