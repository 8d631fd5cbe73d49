import java.lang.reflect.Constructor;
import java.lang.reflect.Field;
import java.lang.reflect.Method;
import java.lang.reflect.Modifier;
import java.util.ArrayList;
import java.util.Arrays;
import java.util.List;
import java.util.Set;
import java.util.TreeSet;

/** The public face is the document's, with nothing beside it. */
final class FaceTest {
    private static final String INDEX = " throws IndexOutOfBoundsException";
    private static final String ARGUMENT = " throws IllegalArgumentException";
    private static final String STATE = " throws IllegalStateException";
    private static final String[] METHODS = {
        "int setShelf(int, int, int)" + INDEX + ARGUMENT + STATE, "int addRecord(int, int)" + INDEX + ARGUMENT + STATE,
        "int removeRecord(int)" + INDEX, "int records()", "int width(int)" + INDEX, "int shelfOf(int)" + INDEX,
        "int catalog(int)" + INDEX, "int weight(int)" + INDEX, "int free(int)" + INDEX, "int reach(int)" + INDEX,
        "int call(int)" + INDEX, "int misplace(int, int)" + INDEX + STATE, "int month()", "int misplaced()",
        "int walked()", "int night(int)" + ARGUMENT, "int cost()", "int steps()", "int reason(int, int)" + INDEX,
        "int bestGain()", "int costAfterNight(int)" + ARGUMENT, "int walkTo(int)" + INDEX,
        "int shelfFor(int)" + ARGUMENT, "double fullness()", "int append(int)" + ARGUMENT + STATE, "int clearText()",
        "int firstError()", "int run()" + ARGUMENT, "int undo()" + STATE, "int savedStates()", "long digest()",
    };
    private static final Check CHECK = new Check("FaceTest");

    public static void main(String[] args) {
        Class<?> face = VaultShelves.class;
        CHECK.equal("the class", Modifier.toString(face.getModifiers()), "public final");
        CHECK.equal("methods", methods(face).toString(), new TreeSet<>(Arrays.asList(METHODS)).toString());
        CHECK.equal("constructors", constructors(face).toString(), "[public VaultShelves()]");
        CHECK.equal("fields", fields(face).toString(), "[public static final int NONE]");
        CHECK.equal("private methods with a public name", doubles(face).toString(), "[]");
        CHECK.end();
    }

    private static Set<String> methods(Class<?> face) {
        Set<String> found = new TreeSet<>();
        for (Method method : face.getDeclaredMethods()) {
            if (!Modifier.isPrivate(method.getModifiers()) && !method.isSynthetic()) {
                StringBuilder text = new StringBuilder(method.getReturnType() + " " + method.getName() + "(");
                for (Class<?> type : method.getParameterTypes()) {
                    text.append(text.charAt(text.length() - 1) == '(' ? "" : ", ").append(type);
                }
                text.append(")");
                for (Class<?> type : method.getExceptionTypes()) {
                    text.append(" throws ").append(type.getSimpleName());
                }
                found.add(text.toString());
                CHECK.equal(method.getName(), Modifier.toString(method.getModifiers()), "public");
            }
        }
        return found;
    }

    private static List<String> constructors(Class<?> face) {
        List<String> found = new ArrayList<>();
        for (Constructor<?> constructor : face.getDeclaredConstructors()) {
            found.add(constructor.toString());
        }
        return found;
    }

    private static List<String> fields(Class<?> face) {
        List<String> found = new ArrayList<>();
        for (Field field : face.getDeclaredFields()) {
            if (!Modifier.isPrivate(field.getModifiers()) && !field.isSynthetic()) {
                String modifiers = Modifier.toString(field.getModifiers());
                found.add(modifiers + " " + field.getType() + " " + field.getName());
            }
        }
        return found;
    }

    private static List<String> doubles(Class<?> face) {
        Set<String> names = new TreeSet<>();
        for (Method method : face.getMethods()) {
            names.add(method.getName());
        }
        List<String> found = new ArrayList<>();
        for (Method method : face.getDeclaredMethods()) {
            if (Modifier.isPrivate(method.getModifiers()) && names.contains(method.getName())) {
                found.add(method.getName());
            }
        }
        return found;
    }
}
