import java.lang.reflect.Constructor;
import java.lang.reflect.Field;
import java.lang.reflect.Method;
import java.lang.reflect.Modifier;
import java.util.ArrayList;
import java.util.Arrays;
import java.util.Collections;
import java.util.List;

/** The public face of the document and no other, and the rules of LANGUAGE.md that it shows. */
public final class FaceTest {
    private static final String INDEX = " IndexOutOfBoundsException";
    private static final String ARGUMENT = " IllegalArgumentException";
    private static final String[] METHODS = {
        "int ask(int, int, int, int)" + ARGUMENT + INDEX,
        "boolean retry(int)" + INDEX,
        "int learn(int)" + INDEX,
        "int deliver(int)" + INDEX,
        "int lose(int)" + INDEX,
        "int twice(int)" + INDEX,
        "boolean sync(int)" + INDEX,
        "boolean crash(int)" + INDEX,
        "int decide(int, int)" + INDEX + " UnsupportedOperationException",
        "int letter(int, int)" + ARGUMENT + INDEX,
        "int client(int, int)" + ARGUMENT + INDEX,
        "int master(int, int)" + ARGUMENT + INDEX,
        "int value(int, int)" + INDEX,
        "int backup(int, int)" + ARGUMENT + INDEX,
        "int witness(int, int)" + ARGUMENT + INDEX,
        "int audit()",
        "int count(int)"};

    public static void main(String[] args) {
        theClass();
        theConstant();
        theConstructor();
        theMethods();
        nothingElseIsSeen();
        noPrivateMethodBearsAPublicName();
        noStaticStateButConstants();
        Check.close("FaceTest");
    }

    private static void theClass() {
        Check.same("public final", OneTrip.class.getModifiers(), Modifier.PUBLIC | Modifier.FINAL);
        Check.same("no package", OneTrip.class.getPackageName(), "");
        Check.same("of nothing else", OneTrip.class.getSuperclass() == Object.class
                && OneTrip.class.getInterfaces().length == 0, true);
    }

    private static void theConstant() {
        Check.same("NONE", OneTrip.NONE, -1);
        Field[] all = OneTrip.class.getFields();
        Check.same("the only one", all.length, 1);
        Check.same("public static final int", Modifier.toString(all[0].getModifiers()) + " "
                + all[0].getType(), "public static final int");
    }

    private static void theConstructor() {
        Constructor<?>[] all = OneTrip.class.getDeclaredConstructors();
        Check.same("the only one", all.length, 1);
        Check.same("of four ints", all[0].toString(), "public OneTrip(int,int,int,int)");
    }

    private static void theMethods() {
        List<String> seen = new ArrayList<>();
        for (Method method : OneTrip.class.getDeclaredMethods()) {
            if (!Modifier.isPrivate(method.getModifiers())) {
                Check.same(method.getName(), method.getModifiers(), Modifier.PUBLIC);
                seen.add(told(method));
            }
        }
        List<String> due = new ArrayList<>(Arrays.asList(METHODS));
        Collections.sort(seen);
        Collections.sort(due);
        Check.same("the document's methods", seen, due);
    }

    private static String told(Method method) {
        List<String> parts = new ArrayList<>();
        for (Class<?> part : method.getParameterTypes()) {
            parts.add(part.getSimpleName());
        }
        List<String> thrown = new ArrayList<>();
        for (Class<?> kind : method.getExceptionTypes()) {
            thrown.add(" " + kind.getSimpleName());
        }
        Collections.sort(thrown);
        return method.getReturnType().getSimpleName() + " " + method.getName() + "("
                + String.join(", ", parts) + ")" + String.join("", thrown);
    }

    private static void nothingElseIsSeen() {
        for (Field field : OneTrip.class.getDeclaredFields()) {
            Check.same(field.getName(), Modifier.isPrivate(field.getModifiers()),
                    !field.getName().equals("NONE"));
        }
        Class<?>[] inside = OneTrip.class.getDeclaredClasses();
        Check.same("some twelve classes", inside.length < 12, true);
        for (Class<?> one : inside) {
            int modifiers = one.getModifiers();
            Check.same(one.getName(), Modifier.isStatic(modifiers) && !Modifier.isPublic(modifiers)
                    && !Modifier.isProtected(modifiers), true);
        }
    }

    private static void noPrivateMethodBearsAPublicName() {
        List<String> names = new ArrayList<>();
        for (Method method : OneTrip.class.getMethods()) {
            names.add(method.getName());
        }
        List<Class<?>> all = new ArrayList<>(Arrays.asList(OneTrip.class.getDeclaredClasses()));
        all.add(OneTrip.class);
        for (Class<?> one : all) {
            for (Method method : one.getDeclaredMethods()) {
                if (Modifier.isPrivate(method.getModifiers())) {
                    Check.same(method.toString(), names.contains(method.getName()), false);
                }
            }
        }
    }

    private static void noStaticStateButConstants() {
        List<Class<?>> all = new ArrayList<>(Arrays.asList(OneTrip.class.getDeclaredClasses()));
        all.add(OneTrip.class);
        for (Class<?> one : all) {
            for (Field field : one.getDeclaredFields()) {
                if (Modifier.isStatic(field.getModifiers())) {
                    Check.same(field.toString(), Modifier.isFinal(field.getModifiers())
                            && field.getType() == int.class, true);
                }
            }
        }
    }
}
