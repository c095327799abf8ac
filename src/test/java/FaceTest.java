import java.lang.reflect.Constructor;
import java.lang.reflect.Field;
import java.lang.reflect.Method;
import java.lang.reflect.Modifier;
import java.util.ArrayList;
import java.util.Arrays;
import java.util.List;

/** The public face: its constants, the constructor and the methods, and nothing else that can be seen. */
public final class FaceTest {
    private static final String[] METHODS = {
        "int agree(int, int)", "int alike(int, int, int)", "int apply(int, int, int)", "int bind(int, int, int)",
        "int copy(int, int)", "int count(int)", "int ends(int, int, int)", "int fault()", "int most(int, int, int)",
        "int named(int, int)", "int of(int, int)", "int part(int, int, int)", "int put(long)", "int read(int)",
        "int restore(int)", "int run(int, int, int)", "int same(int, int)", "int save(int)", "int step(int, int)",
        "int undo()", "int wipe()"
    };
    private static final String[] CONSTANTS = {
        "BAD_TEXT=-3", "BAD_VALUE=-2", "INNER=1", "NONE=-6", "NOT_POSSIBLE=-5", "NO_SUCH=-1", "OUTER=0", "TOO_MANY=-4", "WEAK=2"
    };

    public static void main(String[] args) throws IllegalAccessException {
        Check check = new Check("FaceTest");
        check.due("the methods", methods().toString(), Arrays.asList(METHODS).toString());
        check.due("the constants", constants().toString(), Arrays.asList(CONSTANTS).toString());
        check.due("the class is", Modifier.toString(CountedTerms.class.getModifiers()), "public final");
        Constructor<?>[] constructors = CountedTerms.class.getDeclaredConstructors();
        check.due("constructors", constructors.length, 1);
        check.due("the constructor is", constructors[0].toString(), "public CountedTerms()");
        for (Class<?> inside : CountedTerms.class.getDeclaredClasses()) {
            int modifiers = inside.getModifiers();
            boolean allowed = Modifier.isStatic(modifiers) && !Modifier.isPublic(modifiers) && !Modifier.isProtected(modifiers);
            check.due("may stand inside: " + inside, allowed ? 1 : 0, 1);
        }
        check.finish();
    }

    private static List<String> methods() {
        List<String> seen = new ArrayList<>();
        for (Method method : CountedTerms.class.getDeclaredMethods()) {
            if (!Modifier.isPrivate(method.getModifiers())) {
                String types = Arrays.toString(Arrays.stream(method.getParameterTypes()).map(Class::getName).toArray());
                seen.add(method.getReturnType() + " " + method.getName() + "(" + types.substring(1, types.length() - 1) + ")");
            }
        }
        seen.sort(null);
        return seen;
    }

    private static List<String> constants() throws IllegalAccessException {
        List<String> seen = new ArrayList<>();
        for (Field field : CountedTerms.class.getDeclaredFields()) {
            if (!Modifier.isPrivate(field.getModifiers())) {
                boolean constant = Modifier.toString(field.getModifiers()).equals("public static final");
                seen.add(constant ? field.getName() + "=" + field.getInt(null) : field.toString());
            }
        }
        seen.sort(null);
        return seen;
    }
}
