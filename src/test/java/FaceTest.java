import java.lang.reflect.Field;
import java.lang.reflect.Method;
import java.lang.reflect.Modifier;
import java.util.Arrays;
import java.util.HashSet;
import java.util.Set;
import java.util.TreeSet;

/** The public face is the document's and nothing else; promise 1. */
public final class FaceTest {
    private static final String[] METHODS = {
        "public int signal(int is, int a, int b) throws IllegalArgumentException, IllegalStateException;",
        "public int variable(int is, int a, int b) throws IllegalArgumentException, IllegalStateException;",
        "public int add(int kind, int value, int n) throws IllegalArgumentException, IllegalStateException;",
        "public int process() throws IllegalStateException;",
        "public int processes();",
        "public void put(int signal, boolean last, int k, int value) throws IndexOutOfBoundsException, "
            + "IllegalArgumentException;",
        "public void mark(int signal, boolean event, boolean active) throws IndexOutOfBoundsException;",
        "public int get(int signal, int k) throws IndexOutOfBoundsException;",
        "public void set(int process, int variable, int k, int value) throws IndexOutOfBoundsException, "
            + "IllegalArgumentException;",
        "public int variableOf(int process, int variable, int k) throws IndexOutOfBoundsException;",
        "public int resume(int process, int steps) throws IndexOutOfBoundsException, IllegalArgumentException, "
            + "IllegalStateException;",
        "public int holds(int process) throws IndexOutOfBoundsException, IllegalStateException;",
        "public int about(int process, int what) throws IndexOutOfBoundsException, IllegalArgumentException;",
        "public int waits(int process, int i) throws IndexOutOfBoundsException;",
        "public long until(int process) throws IndexOutOfBoundsException;",
        "public int acts();",
        "public int act(int i, int what) throws IndexOutOfBoundsException, IllegalArgumentException;",
        "public int value(int i, int w, int k) throws IndexOutOfBoundsException;",
        "public long delay(int i, int w) throws IndexOutOfBoundsException;"};

    private static Kit kit;

    public static void main(String[] args) throws ReflectiveOperationException {
        kit = new Kit("FaceTest");
        classesInside();
        names();
        theClass();
        constants();
        methods();
        newObject();
        kit.end();
    }

    /** LANGUAGE.md, rule 1: the classes inside are private or package-visible, and static. */
    private static void classesInside() {
        for (Class<?> inside : StepCode.class.getDeclaredClasses()) {
            kit.same(inside.getName() + " is static", Modifier.isStatic(inside.getModifiers()) ? 1 : 0, 1);
            kit.same(inside.getName() + " is public", Modifier.isPublic(inside.getModifiers()) ? 1 : 0, 0);
        }
    }

    /** LANGUAGE.md, rule 1: no method inside bears the name of a public one. */
    private static void names() {
        Set<String> face = new HashSet<>();
        for (Method method : StepCode.class.getMethods()) {
            if (method.getDeclaringClass() == StepCode.class) {
                face.add(method.getName());
            }
        }
        for (Class<?> inside : StepCode.class.getDeclaredClasses()) {
            for (Method method : inside.getDeclaredMethods()) {
                kit.same(inside.getName() + "." + method.getName() + " bears a public name",
                        face.contains(method.getName()) ? 1 : 0, 0);
            }
        }
    }

    private static void theClass() {
        kit.says("The public face", "public final class StepCode {");
        int modifiers = StepCode.class.getModifiers();
        kit.same("public", Modifier.isPublic(modifiers) ? 1 : 0, 1);
        kit.same("final", Modifier.isFinal(modifiers) ? 1 : 0, 1);
        kit.same("package", StepCode.class.getPackageName(), "");
        kit.says("The public face", "public StepCode();");
        kit.same("constructors", Arrays.toString(StepCode.class.getDeclaredConstructors()), "[public StepCode()]");
    }

    private static void constants() throws ReflectiveOperationException {
        String[] lines = {"NONE = -1", "LOGIC = 0, ROW = 1, NUMBER = 2",
            "NEW = 0, WAITS = 1, STOPPED = 2, FAULTED = 3"};
        Set<String> due = new TreeSet<>();
        for (String line : lines) {
            kit.says("The public face", "public static final int " + line + ";");
            for (String constant : line.split(", ")) {
                String name = constant.split(" = ")[0];
                Field field = StepCode.class.getField(name);
                kit.same(name, Modifier.toString(field.getModifiers()) + " " + field.getType(),
                        "public static final int");
                kit.same(name, name + " = " + field.getInt(null), constant);
                due.add(name);
            }
        }
        Set<String> fields = new TreeSet<>();
        for (Field field : StepCode.class.getDeclaredFields()) {
            if (!Modifier.isPrivate(field.getModifiers())) {
                fields.add(field.getName());
            }
        }
        kit.same("no others", fields.toString(), due.toString());
    }

    private static void methods() {
        Set<String> seen = new TreeSet<>();
        for (Method method : StepCode.class.getDeclaredMethods()) {
            if (!Modifier.isPrivate(method.getModifiers())) {
                seen.add(declared(method));
            }
        }
        for (String line : METHODS) {
            kit.says("The public face", line);
            // Parameters' names are not kept in the compiled class.
            String due = line.replaceAll("(int|boolean) \\w+(?=[,)])", "$1");
            kit.same("it is there", seen.contains(due) ? due : seen.toString(), due);
        }
        kit.same("no others", seen.size(), METHODS.length);
    }

    private static String declared(Method method) {
        String thrown = simpleNames(method.getExceptionTypes());
        return Modifier.toString(method.getModifiers()) + " " + method.getReturnType().getSimpleName() + " "
                + method.getName() + "(" + simpleNames(method.getParameterTypes()) + ")"
                + (thrown.isEmpty() ? "" : " throws " + thrown) + ";";
    }

    private static String simpleNames(Class<?>[] classes) {
        StringBuilder text = new StringBuilder();
        for (Class<?> one : classes) {
            text.append(text.length() == 0 ? "" : ", ").append(one.getSimpleName());
        }
        return text.toString();
    }

    private static void newObject() {
        kit.says("Promise 1", "No signals, no processes, no nodes.");
        StepCode x = new StepCode();
        kit.same("processes", x.processes(), 0);
        kit.same("acts", x.acts(), 0);
        kit.fails("get", Kit.INDEX, () -> x.get(0, 0));
        kit.fails("put", Kit.INDEX, () -> x.put(0, false, 0, 0));
        kit.fails("mark", Kit.INDEX, () -> x.mark(0, true, true));
        kit.fails("set", Kit.INDEX, () -> x.set(0, 0, 0, 0));
        kit.fails("variableOf", Kit.INDEX, () -> x.variableOf(0, 0, 0));
        kit.fails("resume", Kit.INDEX, () -> x.resume(0, 0));
        kit.fails("holds", Kit.INDEX, () -> x.holds(0));
        kit.fails("about", Kit.INDEX, () -> x.about(0, 9));
        kit.fails("waits", Kit.INDEX, () -> x.waits(0, 0));
        kit.fails("until", Kit.INDEX, () -> x.until(0));
        kit.fails("act", Kit.INDEX, () -> x.act(0, 9));
        kit.fails("value", Kit.INDEX, () -> x.value(0, 0, 0));
        kit.fails("delay", Kit.INDEX, () -> x.delay(0, -1));
        kit.same("process of nothing", x.process(), -1);
        kit.same("the first signal", x.signal(0, 0, 0), 0);
        kit.same("the first variable", x.variable(0, 0, 0), 0);
        kit.fails("no tree yet", Kit.ARGUMENT, () -> x.add(48, 0, 1));
        kit.same("the first node", x.add(48, 0, 0), 0);
        kit.same("the first process", x.process(), 0);
    }
}
