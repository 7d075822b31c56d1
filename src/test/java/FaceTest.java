import java.lang.reflect.Constructor;
import java.lang.reflect.Field;
import java.lang.reflect.Member;
import java.lang.reflect.Method;
import java.lang.reflect.Modifier;
import java.util.Arrays;
import java.util.Set;
import java.util.TreeSet;

/** The class's face is the document's, and nothing else can be seen of it. */
final class FaceTest {
    private static final String NO_SUCH = "IndexOutOfBoundsException";
    private static final String BAD = "IllegalArgumentException";
    private static final String STATE = "IllegalStateException";
    private static final String[] METHODS = {
        "int append(int) " + BAD + " " + STATE, "int clearText()", "int errorPosition()", "int load() " + STATE,
        "int about(int) " + BAD, "int wheelOf(int, int) " + NO_SUCH + " " + BAD,
        "int placeOf(int, int, int) " + NO_SUCH + " " + BAD, "int frogOf(int, int) " + NO_SUCH + " " + BAD,
        "int lineOf(int, int) " + NO_SUCH + " " + BAD, "int wheel(int, int, int) " + BAD + " " + STATE,
        "int line(int, int, int, int) " + NO_SUCH + " " + BAD + " " + STATE,
        "int frog(int, int, int) " + NO_SUCH + " " + BAD + " " + STATE,
        "int flies(int, int, int) " + NO_SUCH + " " + BAD, "int leap(int, int) " + NO_SUCH,
        "int hop(int, int) " + NO_SUCH + " " + BAD, "int turn(int, int) " + NO_SUCH + " " + BAD,
        "int set(int) " + BAD, "int undo() " + STATE, "int why(int, int) " + NO_SUCH,
        "int fewest(int, int, int, int) " + NO_SUCH + " " + BAD, "int couldBe(int, int) " + NO_SUCH,
        "int mostFlies(int, int) " + NO_SUCH + " " + BAD, "int runScript(int, long) " + BAD,
        "int simulate(long, int) " + BAD, "int save(int) " + NO_SUCH, "int restore(int) " + NO_SUCH + " " + STATE};

    public static void main(String[] args) {
        Checks checks = new Checks("FaceTest");
        checks.due("the class is public and final", Modifier.isPublic(LilyWheels.class.getModifiers())
            && Modifier.isFinal(LilyWheels.class.getModifiers()));
        Set<String> seen = new TreeSet<>();
        for (Method m : LilyWheels.class.getDeclaredMethods()) {
            if (!hidden(m)) {
                String types = Arrays.toString(m.getParameterTypes());
                StringBuilder face = new StringBuilder(m.getReturnType() + " " + m.getName());
                face.append("(").append(types, 1, types.length() - 1).append(")");
                for (Class<?> thrown : m.getExceptionTypes()) {
                    face.append(" ").append(thrown.getSimpleName());
                }
                seen.add(face.toString());
                checks.due(m + " is public and not static",
                    Modifier.isPublic(m.getModifiers()) && !Modifier.isStatic(m.getModifiers()));
            }
        }
        Set<String> want = new TreeSet<>(Arrays.asList(METHODS));
        checks.due("the methods, with what they throw, are the document's: " + seen, seen.equals(want));
        int constants = 0;
        for (Field f : LilyWheels.class.getDeclaredFields()) {
            if (!hidden(f)) {
                constants++;
                checks.due(f + " is the constant NONE", f.toString().equals("public static final int LilyWheels.NONE"));
            }
        }
        checks.due("constants", constants, 1);
        checks.due("NONE", LilyWheels.NONE, -1);
        Constructor<?>[] makers = LilyWheels.class.getDeclaredConstructors();
        checks.due("constructors", makers.length, 1);
        checks.due("what the constructor throws", makers[0].getExceptionTypes().length, 0);
        checks.due("the constructor is public and takes nothing",
            Modifier.isPublic(makers[0].getModifiers()) && makers[0].getParameterCount() == 0);
        checks.end();
    }

    private static boolean hidden(Member m) {
        return Modifier.isPrivate(m.getModifiers()) || m.isSynthetic();
    }
}
