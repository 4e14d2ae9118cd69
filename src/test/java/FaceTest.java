import java.lang.reflect.Constructor;
import java.lang.reflect.Field;
import java.lang.reflect.Method;
import java.lang.reflect.Modifier;
import java.util.Arrays;
import java.util.HashSet;
import java.util.Set;
import java.util.TreeSet;

/** The public face is the document's and nothing else; promise 1. */
public final class FaceTest {
    private static final String[] METHODS = {
        "int about(int,int)", "int act(int,int)", "int acts()", "int add(int,int,int)", "int get(int,int)",
        "int holds(int)", "int process()", "int processes()", "int resume(int,int)", "int signal(int,int,int)",
        "int value(int,int,int)", "int variable(int,int,int)", "int variableOf(int,int,int)", "int waits(int,int)",
        "long delay(int,int)", "long until(int)", "void mark(int,boolean,boolean)",
        "void put(int,boolean,int,int)", "void set(int,int,int,int)"};

    public static void main(String[] args) {
        Kit kit = new Kit("FaceTest");
        constants(kit);
        members(kit);
        names(kit);
        newObject(kit);
        kit.end();
    }

    private static void constants(Kit kit) {
        kit.same("NONE", StepCode.NONE, -1);
        kit.same("LOGIC", StepCode.LOGIC, 0);
        kit.same("ROW", StepCode.ROW, 1);
        kit.same("NUMBER", StepCode.NUMBER, 2);
        kit.same("NEW", StepCode.NEW, 0);
        kit.same("WAITS", StepCode.WAITS, 1);
        kit.same("STOPPED", StepCode.STOPPED, 2);
        kit.same("FAULTED", StepCode.FAULTED, 3);
    }

    private static void members(Kit kit) {
        int modifiers = StepCode.class.getModifiers();
        kit.same("public and final", Modifier.isPublic(modifiers) && Modifier.isFinal(modifiers) ? 1 : 0, 1);
        Set<String> methods = new TreeSet<>();
        for (Method method : StepCode.class.getDeclaredMethods()) {
            if (!Modifier.isPrivate(method.getModifiers())) {
                String types = Arrays.toString(method.getParameterTypes()).replace(" ", "");
                methods.add(method.getReturnType() + " " + method.getName() + "("
                        + types.substring(1, types.length() - 1) + ")");
            }
        }
        kit.same("methods", methods.toString(), new TreeSet<>(Arrays.asList(METHODS)).toString());
        Set<String> fields = new TreeSet<>();
        for (Field field : StepCode.class.getDeclaredFields()) {
            if (!Modifier.isPrivate(field.getModifiers())) {
                fields.add(field.getName());
            }
        }
        kit.same("fields", fields.toString(), "[FAULTED, LOGIC, NEW, NONE, NUMBER, ROW, STOPPED, WAITS]");
        Constructor<?>[] made = StepCode.class.getDeclaredConstructors();
        kit.same("constructors", made.length, 1);
        kit.same("constructor's parameters", made[0].getParameterCount(), 0);
        for (Class<?> inside : StepCode.class.getDeclaredClasses()) {
            kit.same(inside.getName() + " is static", Modifier.isStatic(inside.getModifiers()) ? 1 : 0, 1);
            kit.same(inside.getName() + " is public", Modifier.isPublic(inside.getModifiers()) ? 1 : 0, 0);
        }
    }

    /** No method inside bears the name of a public one. */
    private static void names(Kit kit) {
        Set<String> face = new HashSet<>();
        for (Method method : StepCode.class.getMethods()) {
            if (method.getDeclaringClass() == StepCode.class) {
                face.add(method.getName());
            }
        }
        for (Class<?> inside : StepCode.class.getDeclaredClasses()) {
            for (Method method : inside.getDeclaredMethods()) {
                kit.same(inside.getName() + "." + method.getName() + " bears a public name",
                        face.contains(method.getName()) ? 1 : 0, 0);
            }
        }
    }

    private static void newObject(Kit kit) {
        StepCode x = new StepCode();
        kit.same("processes", x.processes(), 0);
        kit.same("acts", x.acts(), 0);
        kit.fails("get", Kit.INDEX, () -> x.get(0, 0));
        kit.fails("put", Kit.INDEX, () -> x.put(0, false, 0, 0));
        kit.fails("mark", Kit.INDEX, () -> x.mark(0, true, true));
        kit.fails("set", Kit.INDEX, () -> x.set(0, 0, 0, 0));
        kit.fails("variableOf", Kit.INDEX, () -> x.variableOf(0, 0, 0));
        kit.fails("resume", Kit.INDEX, () -> x.resume(0, 0));
        kit.fails("holds", Kit.INDEX, () -> x.holds(0));
        kit.fails("about", Kit.INDEX, () -> x.about(0, 9));
        kit.fails("waits", Kit.INDEX, () -> x.waits(0, 0));
        kit.fails("until", Kit.INDEX, () -> x.until(0));
        kit.fails("act", Kit.INDEX, () -> x.act(0, 9));
        kit.fails("value", Kit.INDEX, () -> x.value(0, 0, 0));
        kit.fails("delay", Kit.INDEX, () -> x.delay(0, -1));
        kit.same("process of nothing", x.process(), -1);
        kit.same("the first signal", x.signal(0, 0, 0), 0);
        kit.same("the first variable", x.variable(0, 0, 0), 0);
        kit.fails("no tree yet", Kit.ARGUMENT, () -> x.add(48, 0, 1));
        kit.same("the first node", x.add(48, 0, 0), 0);
        kit.same("the first process", x.process(), 0);
    }
}
