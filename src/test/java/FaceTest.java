import java.lang.reflect.Constructor;
import java.lang.reflect.Field;
import java.lang.reflect.Method;
import java.lang.reflect.Modifier;
import java.util.Arrays;
import java.util.Set;
import java.util.TreeSet;

/** The public face is the document's, with its exceptions, and nothing else is to be seen. */
public final class FaceTest {
    private static final String INDEX = "IndexOutOfBoundsException";
    private static final String ARGUMENT = "IllegalArgumentException";
    private static final String STATE = "IllegalStateException";

    private static final String[] FACE = {
        "int set(int,int,int) " + INDEX + " " + ARGUMENT,
        "int setGust(int,int) " + INDEX + " " + ARGUMENT,
        "int build(int) " + ARGUMENT + " " + STATE,
        "int fill(int,int) " + INDEX + " " + STATE,
        "int go(int) " + INDEX + " " + STATE,
        "int launch(int) " + ARGUMENT + " " + STATE,
        "int stow(int,int,boolean) " + INDEX + " " + STATE,
        "int sail(int) " + INDEX + " " + STATE,
        "int layer(int,int) " + INDEX,
        "int told(int,int) " + INDEX,
        "int boat(int,int) " + INDEX,
        "int beach(int) " + INDEX,
        "int count(int) " + INDEX,
        "int pass(int) " + ARGUMENT,
        "int back(int) " + INDEX,
        "int arrives(int) " + INDEX,
        "int advise(int,int) " + INDEX,
        "int foresee(int,int) " + ARGUMENT + " " + INDEX,
        "double mean()",
        "long digest()",
    };

    private static final Check check = new Check();

    public static void main(String[] args) {
        Class<PumiceSledge> c = PumiceSledge.class;
        check.due("modifiers of the class", Modifier.PUBLIC | Modifier.FINAL, c.getModifiers());
        Constructor<?>[] made = c.getDeclaredConstructors();
        check.due("constructors", 1, made.length);
        check.due("the constructor", "public PumiceSledge()", made[0].toString());
        Set<String> seen = new TreeSet<>();
        for (Method m : c.getDeclaredMethods()) {
            if (!Modifier.isPrivate(m.getModifiers())) {
                check.due("modifiers of " + m.getName(), Modifier.PUBLIC, m.getModifiers());
                seen.add(told(m));
            }
        }
        check.due("methods", new TreeSet<>(Arrays.asList(FACE)), seen);
        for (Field f : c.getDeclaredFields()) {
            check.due(f.getName() + " is private", true, Modifier.isPrivate(f.getModifiers()));
        }
        check.end();
    }

    private static String told(Method m) {
        StringBuilder b = new StringBuilder();
        b.append(m.getReturnType()).append(' ').append(m.getName()).append('(');
        Class<?>[] parameters = m.getParameterTypes();
        for (int i = 0; i < parameters.length; i++) {
            b.append(i > 0 ? "," : "").append(parameters[i]);
        }
        b.append(')');
        for (Class<?> thrown : m.getExceptionTypes()) {
            b.append(' ').append(thrown.getSimpleName());
        }
        return b.toString();
    }
}
