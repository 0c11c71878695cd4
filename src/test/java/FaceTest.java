import java.lang.reflect.Constructor;
import java.lang.reflect.Field;
import java.lang.reflect.Method;
import java.lang.reflect.Modifier;
import java.util.TreeSet;

/** The public face: what stands there, no more and no less. */
public final class FaceTest {
    private static final String[] METHODS = {
        "int member(long)", "int instrument(int,int,int)", "long capital(long)", "void move(int,int,int)",
        "void bid(int,int,int)", "long deposit(int,long)", "long withdraw(int,long)",
        "int trade(int,int,int,int,int)", "int mark(int,int)", "long margin(int)", "long called(int)",
        "int declare()", "long closeOut(int)", "long told(int,int)", "int position(int,int)", "long bore(int)",
        "long all(int)"
    };

    public static void main(String[] args) throws ReflectiveOperationException {
        Check.answers("NONE", -1, MarginHouse.NONE);
        Check.holds("the class is public and final",
                (MarginHouse.class.getModifiers() & (Modifier.PUBLIC | Modifier.FINAL))
                        == (Modifier.PUBLIC | Modifier.FINAL));
        methodsAreTheDocuments();
        fieldsAreTheDocuments();
        constructorsAreTheDocuments();
        Check.end();
    }

    private static void methodsAreTheDocuments() {
        TreeSet<String> due = new TreeSet<>(java.util.List.of(METHODS));
        TreeSet<String> got = new TreeSet<>();
        TreeSet<String> names = new TreeSet<>();
        for (Method method : MarginHouse.class.getDeclaredMethods()) {
            if (!Modifier.isPrivate(method.getModifiers())) {
                got.add(told(method));
                names.add(method.getName());
            }
        }
        Check.same("methods that are not private", due.toString(), got.toString());
        for (Method method : MarginHouse.class.getDeclaredMethods()) {
            if (Modifier.isPrivate(method.getModifiers())) {
                Check.holds("a private method bears a public name: " + method, !names.contains(method.getName()));
            }
        }
    }

    private static void fieldsAreTheDocuments() {
        for (Field field : MarginHouse.class.getDeclaredFields()) {
            boolean isPrivate = Modifier.isPrivate(field.getModifiers());
            Check.holds("field " + field.getName(), isPrivate != field.getName().equals("NONE"));
            Check.holds("static but not final: " + field.getName(),
                    !Modifier.isStatic(field.getModifiers()) || Modifier.isFinal(field.getModifiers()));
        }
    }

    private static void constructorsAreTheDocuments() {
        Constructor<?>[] made = MarginHouse.class.getDeclaredConstructors();
        Check.answers("how many constructors", 1, made.length);
        Check.answers("parameters of the constructor", 0, made[0].getParameterCount());
        Check.holds("the constructor is public", Modifier.isPublic(made[0].getModifiers()));
    }

    private static String told(Method method) {
        StringBuilder text = new StringBuilder();
        text.append(method.getReturnType().getSimpleName()).append(' ').append(method.getName()).append('(');
        for (int p = 0; p < method.getParameterCount(); p++) {
            text.append(p == 0 ? "" : ",").append(method.getParameterTypes()[p].getSimpleName());
        }
        return text.append(')').toString();
    }
}
