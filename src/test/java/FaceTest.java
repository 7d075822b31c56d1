import java.lang.reflect.Constructor;
import java.lang.reflect.Field;
import java.lang.reflect.Member;
import java.lang.reflect.Method;
import java.lang.reflect.Modifier;
import java.util.Arrays;
import java.util.Set;
import java.util.TreeSet;

/** The class's face is the document's, and nothing else can be seen of it. */
final class FaceTest {
    private static final String[] METHODS = {
        "int append(int)", "int clearText()", "int errorPosition()", "int load()", "int about(int)",
        "int wheelOf(int, int)", "int placeOf(int, int, int)", "int frogOf(int, int)", "int lineOf(int, int)",
        "int wheel(int, int, int)", "int line(int, int, int, int)", "int frog(int, int, int)",
        "int flies(int, int, int)", "int leap(int, int)", "int hop(int, int)", "int turn(int, int)",
        "int set(int)", "int undo()", "int why(int, int)", "int fewest(int, int, int, int)",
        "int couldBe(int, int)", "int mostFlies(int, int)", "int runScript(int, long)",
        "int simulate(long, int)", "int save(int)", "int restore(int)"};

    public static void main(String[] args) {
        Checks checks = new Checks("FaceTest");
        checks.due("the class is public and final", Modifier.isPublic(LilyWheels.class.getModifiers())
            && Modifier.isFinal(LilyWheels.class.getModifiers()));
        Set<String> seen = new TreeSet<>();
        for (Method m : LilyWheels.class.getDeclaredMethods()) {
            if (!hidden(m)) {
                String types = Arrays.toString(m.getParameterTypes());
                seen.add(m.getReturnType() + " " + m.getName() + "(" + types.substring(1, types.length() - 1) + ")");
                checks.due(m + " is public and not static",
                    Modifier.isPublic(m.getModifiers()) && !Modifier.isStatic(m.getModifiers()));
            }
        }
        Set<String> want = new TreeSet<>(Arrays.asList(METHODS));
        checks.due("the methods are the document's: " + seen, seen.equals(want));
        int constants = 0;
        for (Field f : LilyWheels.class.getDeclaredFields()) {
            if (!hidden(f)) {
                constants++;
                checks.due(f + " is the constant NONE", f.toString().equals("public static final int LilyWheels.NONE"));
            }
        }
        checks.due("constants", constants, 1);
        checks.due("NONE", LilyWheels.NONE, -1);
        Constructor<?>[] makers = LilyWheels.class.getDeclaredConstructors();
        checks.due("constructors", makers.length, 1);
        checks.due("the constructor is public and takes nothing",
            Modifier.isPublic(makers[0].getModifiers()) && makers[0].getParameterCount() == 0);
        checks.end();
    }

    private static boolean hidden(Member m) {
        return Modifier.isPrivate(m.getModifiers()) || m.isSynthetic();
    }
}
