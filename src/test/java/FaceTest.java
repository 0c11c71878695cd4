import java.lang.reflect.Constructor;
import java.lang.reflect.Field;
import java.lang.reflect.Method;
import java.lang.reflect.Modifier;
import java.util.List;
import java.util.TreeSet;

/** The public face: what stands there, no more and no less. */
public final class FaceTest {
    private static final String ARGUMENT = " throws IllegalArgumentException";
    private static final String STATE = ARGUMENT + ", IllegalStateException";
    private static final List<String> METHODS = List.of(
            "int member(long)" + ARGUMENT, "int instrument(int, int, int)" + ARGUMENT,
            "long capital(long)" + ARGUMENT, "void move(int, int, int)" + ARGUMENT,
            "void bid(int, int, int)" + ARGUMENT, "long deposit(int, long)" + STATE,
            "long withdraw(int, long)" + STATE, "int trade(int, int, int, int, int)" + STATE,
            "int mark(int, int)" + ARGUMENT, "long margin(int)" + ARGUMENT, "long called(int)" + ARGUMENT,
            "int declare()", "long closeOut(int)" + STATE, "long told(int, int)" + ARGUMENT,
            "int position(int, int)" + ARGUMENT, "long bore(int)" + ARGUMENT, "long all(int)" + ARGUMENT);

    public static void main(String[] args) throws ReflectiveOperationException {
        classIsPublicAndFinal();
        noneIsAConstant();
        methodsAreTheDocuments();
        noPrivateMethodBearsAPublicName();
        fieldsAreTheDocuments();
        constructorsAreTheDocuments();
        Check.end();
    }

    private static void classIsPublicAndFinal() {
        int modifiers = MarginHouse.class.getModifiers();
        Check.holds("the class is public and final", Modifier.isPublic(modifiers) && Modifier.isFinal(modifiers));
    }

    private static void noneIsAConstant() throws ReflectiveOperationException {
        Field none = MarginHouse.class.getDeclaredField("NONE");
        Check.same("NONE", "public static final int", Modifier.toString(none.getModifiers()) + " " + none.getType());
        Check.answers("NONE", -1, MarginHouse.NONE);
    }

    private static void methodsAreTheDocuments() {
        TreeSet<String> got = new TreeSet<>();
        for (Method method : MarginHouse.class.getDeclaredMethods()) {
            if (!Modifier.isPrivate(method.getModifiers())) {
                got.add(told(method));
                Check.same(method.getName(), "public", Modifier.toString(method.getModifiers()));
            }
        }
        Check.same("methods that are not private", new TreeSet<>(METHODS).toString(), got.toString());
    }

    private static void noPrivateMethodBearsAPublicName() {
        TreeSet<String> names = new TreeSet<>();
        for (Method method : MarginHouse.class.getMethods()) {
            names.add(method.getName());
        }
        for (Method method : MarginHouse.class.getDeclaredMethods()) {
            Check.holds("a private method bears a public name: " + method,
                    !Modifier.isPrivate(method.getModifiers()) || !names.contains(method.getName()));
        }
    }

    private static void fieldsAreTheDocuments() {
        for (Field field : MarginHouse.class.getDeclaredFields()) {
            boolean isPrivate = Modifier.isPrivate(field.getModifiers());
            Check.holds("field " + field.getName(), isPrivate != field.getName().equals("NONE"));
            Check.holds("static but not final: " + field.getName(),
                    !Modifier.isStatic(field.getModifiers()) || Modifier.isFinal(field.getModifiers()));
        }
    }

    private static void constructorsAreTheDocuments() {
        Constructor<?>[] made = MarginHouse.class.getDeclaredConstructors();
        Check.answers("how many constructors", 1, made.length);
        Check.answers("parameters of the constructor", 0, made[0].getParameterCount());
        Check.answers("what the constructor throws", 0, made[0].getExceptionTypes().length);
        Check.holds("the constructor is public", Modifier.isPublic(made[0].getModifiers()));
    }

    private static String told(Method method) {
        String thrown = names(method.getExceptionTypes());
        return method.getReturnType().getSimpleName() + " " + method.getName() + "("
                + names(method.getParameterTypes()) + ")" + (thrown.isEmpty() ? "" : " throws " + thrown);
    }

    private static String names(Class<?>[] types) {
        StringBuilder text = new StringBuilder();
        for (Class<?> type : types) {
            text.append(text.length() == 0 ? "" : ", ").append(type.getSimpleName());
        }
        return text.toString();
    }
}
