import java.lang.reflect.Constructor;
import java.lang.reflect.Field;
import java.lang.reflect.Method;
import java.lang.reflect.Modifier;
import java.util.Arrays;
import java.util.Set;
import java.util.TreeSet;

/** The public face: just the members of the document, with their types. */
public final class FaceTest {
    private static final String[] METHODS = {
        "int addGate(int, int, int, int)", "int setDirection(int, int)", "int addPool(int)",
        "int credit(int, int)", "int addPass(int)", "int block(int, boolean)", "int setFare(int)",
        "int enter(int, int, boolean)", "int exit(int, int)", "int divert(int, int)",
        "int pinch(int)", "int fail(int)", "int repair(int)", "int pass(int)", "int type(char)",
        "int clearText()", "int run()", "int undo()", "int gate(int, int)",
        "int queued(int, int, int)", "int person(int, int)", "int pool(int, int)",
        "int passOf(int, int)", "int event(int, int)", "int passesIn(int)", "int count(int)"};
    private static final String[] CONSTANTS = {"UNKNOWN", "BAD_VALUE", "FULL", "NOT_POSSIBLE",
        "NONE"};

    public static void main(String[] arguments) {
        int modifiers = TurnstileBank.class.getModifiers();
        Check.due("public and final", Modifier.isPublic(modifiers) && Modifier.isFinal(modifiers));
        methods();
        constants();
        Constructor<?>[] constructors = TurnstileBank.class.getDeclaredConstructors();
        Check.due("one constructor", constructors.length, 1);
        Check.due("without arguments", constructors[0].getParameterCount(), 0);
        Check.due("public", Modifier.isPublic(constructors[0].getModifiers()));
        for (Class<?> inside : TurnstileBank.class.getDeclaredClasses()) {
            Check.due(inside + " is static", Modifier.isStatic(inside.getModifiers()));
            Check.due(inside + " is hidden", !Modifier.isPublic(inside.getModifiers())
                    && !Modifier.isProtected(inside.getModifiers()));
            fieldsAreFew(inside);
        }
        fieldsAreFew(TurnstileBank.class);
        Check.end("FaceTest");
    }

    private static void methods() {
        Set<String> due = new TreeSet<>(Arrays.asList(METHODS));
        Set<String> open = new TreeSet<>();
        Set<String> names = new TreeSet<>();
        for (String method : METHODS) {
            names.add(method.substring(4, method.indexOf('(')));
        }
        for (Method method : TurnstileBank.class.getDeclaredMethods()) {
            if (Modifier.isPrivate(method.getModifiers())) {
                Check.due("private " + method.getName(), !names.contains(method.getName()));
                continue;
            }
            StringBuilder form = new StringBuilder("int ").append(method.getName()).append('(');
            for (Class<?> type : method.getParameterTypes()) {
                form.append(form.charAt(form.length() - 1) == '(' ? "" : ", ").append(type);
            }
            open.add(form.append(')').toString());
            Check.due(method + " answers an int", method.getReturnType() == int.class);
            Check.due(method + " is public", Modifier.isPublic(method.getModifiers()));
            Check.due(method + " is no static one", !Modifier.isStatic(method.getModifiers()));
        }
        Check.due("the methods " + open, open.equals(due));
    }

    private static void constants() {
        Set<String> open = new TreeSet<>();
        for (Field field : TurnstileBank.class.getDeclaredFields()) {
            if (!Modifier.isPrivate(field.getModifiers())) {
                open.add(field.getName());
                int all = Modifier.PUBLIC | Modifier.STATIC | Modifier.FINAL;
                Check.due(field + "", field.getModifiers(), all);
                Check.due(field + " is an int", field.getType() == int.class);
            }
        }
        Check.due("the constants " + open, open.equals(new TreeSet<>(Arrays.asList(CONSTANTS))));
    }

    private static void fieldsAreFew(Class<?> type) {
        long fields = Arrays.stream(type.getDeclaredFields())
                .filter(field -> !Modifier.isStatic(field.getModifiers())).count();
        Check.due("fields of " + type, fields <= 20);
        for (Field field : type.getDeclaredFields()) {
            Check.due(field + ", if static, is final", !Modifier.isStatic(field.getModifiers())
                    || Modifier.isFinal(field.getModifiers()));
        }
    }
}
