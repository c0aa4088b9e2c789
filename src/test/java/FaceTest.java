import java.lang.reflect.Constructor;
import java.lang.reflect.Field;
import java.lang.reflect.Method;
import java.lang.reflect.Modifier;
import java.util.ArrayList;
import java.util.Arrays;
import java.util.HashSet;
import java.util.List;
import java.util.Set;

/** The public face of the document, and the rules of the language that a compiled class shows. */
final class FaceTest {
    private static final String[] METHODS = {
        "int open(int, boolean, int, int)", "int close(int)", "int take(int)", "int release(int, int)",
        "int share(int, int, int, int)", "int store(int, int, int, int)", "long fetch(int, int, int)",
        "int revoke(int, int, int)", "int tick(int)", "int op(int, int, int, int, int)",
        "int install(int)", "int push(int)", "int arrive()", "int got(int, int)", "int next(int)",
        "int write(int, int, int, int)", "int put(int, int, int, boolean)", "long get(int, int)",
        "int holder(int, int)", "int count(int, int)"
    };

    public static void main(String[] args) throws IllegalAccessException {
        constants();
        methods();
        constructor();
        Run.check("the class is public and final",
            BindingKernel.class.getModifiers() == (Modifier.PUBLIC | Modifier.FINAL));
        classesInside();
        sizes();
        Run.end();
    }

    private static void constants() throws IllegalAccessException {
        String[] names = {"OK", "REFUSED", "FULL", "BUSY", "TAKEN", "BAD", "LOST"};
        Set<String> known = new HashSet<>(Arrays.asList(names));
        known.add("NONE");
        for (Field field : BindingKernel.class.getDeclaredFields()) {
            boolean isFace = known.remove(field.getName());
            int wanted = Modifier.PUBLIC | Modifier.STATIC | Modifier.FINAL;
            Run.check("field " + field.getName() + " is private or of the face",
                isFace ? field.getModifiers() == wanted : Modifier.isPrivate(field.getModifiers()));
            for (int i = 0; i < names.length; i++) {
                if (names[i].equals(field.getName())) {
                    Run.check(names[i], field.getType() == int.class && field.getInt(null) == -i);
                }
            }
        }
        Run.check("no constant is missing: " + known, known.isEmpty());
        Run.check("NONE", BindingKernel.NONE == 1000000000000L);
    }

    private static void methods() {
        Set<String> known = new HashSet<>(Arrays.asList(METHODS));
        Set<String> publicNames = new HashSet<>();
        for (Method method : BindingKernel.class.getMethods()) {
            if (method.getDeclaringClass() == BindingKernel.class) {
                publicNames.add(method.getName());
            }
        }
        for (Method method : BindingKernel.class.getDeclaredMethods()) {
            String text = describe(method);
            boolean isFace = known.remove(text) && method.getModifiers() == Modifier.PUBLIC;
            boolean isHidden = Modifier.isPrivate(method.getModifiers())
                && !publicNames.contains(method.getName());
            Run.check("method " + text + " is hidden or of the face", isFace || isHidden);
        }
        Run.check("no method is missing: " + known, known.isEmpty());
    }

    private static String describe(Method method) {
        List<String> types = new ArrayList<>();
        for (Class<?> type : method.getParameterTypes()) {
            types.add(type.getSimpleName());
        }
        return method.getReturnType() + " " + method.getName() + "(" + String.join(", ", types) + ")";
    }

    private static void constructor() {
        Constructor<?>[] all = BindingKernel.class.getDeclaredConstructors();
        Run.check("one constructor", all.length == 1);
        Run.check("it is public and takes two ints", all[0].getModifiers() == Modifier.PUBLIC
            && Arrays.equals(all[0].getParameterTypes(), new Class<?>[] {int.class, int.class}));
    }

    private static void classesInside() {
        for (Class<?> inside : BindingKernel.class.getDeclaredClasses()) {
            int modifiers = inside.getModifiers();
            Run.check(inside + " is static and not public or protected", Modifier.isStatic(modifiers)
                && !Modifier.isPublic(modifiers) && !Modifier.isProtected(modifiers));
        }
    }

    private static void sizes() {
        List<Class<?>> classes = new ArrayList<>(Arrays.asList(BindingKernel.class.getDeclaredClasses()));
        classes.add(BindingKernel.class);
        Run.check("at most twelve classes", classes.size() <= 12);
        for (Class<?> each : classes) {
            int fields = 0;
            for (Field field : each.getDeclaredFields()) {
                boolean isStatic = Modifier.isStatic(field.getModifiers());
                fields += isStatic ? 0 : 1;
                Run.check(field + ": static fields are final",
                    !isStatic || Modifier.isFinal(field.getModifiers()));
            }
            Run.check(each + " has at most twenty fields", fields <= 20);
            for (Method method : each.getDeclaredMethods()) {
                Run.check(method + " has at most seven parameters", method.getParameterCount() <= 7);
            }
        }
    }
}
