import java.lang.reflect.Constructor;
import java.lang.reflect.Field;
import java.lang.reflect.Method;
import java.lang.reflect.Modifier;
import java.util.TreeSet;

/** The public face is the document's, and nothing else is to be seen. */
public final class FaceTest {
    private static final String BOUNDS = "IndexOutOfBoundsException";
    private static final String ARGUMENT = "IllegalArgumentException";
    private static final String STATE = "IllegalStateException";
    private static final String[] FACE = {
        "int lay(int,int,int) " + BOUNDS + " " + ARGUMENT + " " + STATE,
        "int cell(int,int,int) " + BOUNDS,
        "int come(int,int,int,int) " + BOUNDS + " " + ARGUMENT + " " + STATE,
        "int order(int,int,int) " + BOUNDS + " " + ARGUMENT + " " + STATE,
        "int call(int) " + BOUNDS,
        "int tunneller(int,int) " + BOUNDS,
        "int pass(int) " + ARGUMENT,
        "int count(int) " + BOUNDS,
        "int way(int,int,int,int) " + BOUNDS,
        "int dig(int,int,int,int) " + BOUNDS,
        "int caves(int) " + BOUNDS,
        "int meet(int,int,int) " + BOUNDS + " " + ARGUMENT,
        "int foresee(int,int) " + ARGUMENT + " " + BOUNDS,
        "int without(int,int) " + BOUNDS,
        "double light()",
        "long digest()",
    };

    public static void main(String[] args) {
        Due due = new Due();
        due.is("modifiers of the class", SnowMaze.class.getModifiers(), Modifier.PUBLIC | Modifier.FINAL);
        due.is("it extends nothing", SnowMaze.class.getSuperclass() == Object.class ? 1 : 0, 1);
        due.is("it implements nothing", SnowMaze.class.getInterfaces().length, 0);
        TreeSet<String> wanted = new TreeSet<>();
        TreeSet<String> names = new TreeSet<>();
        for (String line : FACE) {
            wanted.add(line);
            names.add(line.substring(line.indexOf(' ') + 1, line.indexOf('(')));
        }
        TreeSet<String> found = new TreeSet<>();
        for (Method method : SnowMaze.class.getDeclaredMethods()) {
            if (Modifier.isPrivate(method.getModifiers())) {
                due.is("a private method named " + method.getName(), names.contains(method.getName()) ? 1 : 0, 0);
            } else {
                due.is("modifiers of " + method.getName(), method.getModifiers(), Modifier.PUBLIC);
                found.add(told(method));
            }
        }
        due.is("the methods " + found, found.equals(wanted) ? 1 : 0, 1);
        for (Field field : SnowMaze.class.getDeclaredFields()) {
            due.is("private " + field.getName(), Modifier.isPrivate(field.getModifiers()) ? 1 : 0, 1);
        }
        Constructor<?>[] constructors = SnowMaze.class.getDeclaredConstructors();
        due.is("constructors", constructors.length, 1);
        due.is("modifiers of it", constructors[0].getModifiers(), Modifier.PUBLIC);
        due.is("arguments of it", constructors[0].getParameterCount(), 0);
        due.is("exceptions of it", constructors[0].getExceptionTypes().length, 0);
        due.end();
    }

    private static String told(Method method) {
        StringBuilder text = new StringBuilder();
        text.append(method.getReturnType().getName()).append(' ').append(method.getName()).append('(');
        for (Class<?> type : method.getParameterTypes()) {
            text.append(text.charAt(text.length() - 1) == '(' ? "" : ",").append(type.getName());
        }
        text.append(')');
        for (Class<?> type : method.getExceptionTypes()) {
            text.append(' ').append(type.getSimpleName());
        }
        return text.toString();
    }
}
