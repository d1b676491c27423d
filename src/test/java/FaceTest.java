import java.lang.reflect.Constructor;
import java.lang.reflect.Field;
import java.lang.reflect.Method;
import java.lang.reflect.Modifier;
import java.util.Arrays;
import java.util.Set;
import java.util.TreeSet;

/** The face of the class is the document's, and nothing more of it can be seen. */
public final class FaceTest {
    private static final String[] METHODS = {
        "int group(int,int)", "int write(int,int,int,int)", "int fill(int,int,int,int,int)", "int flush(int)",
        "int checkpoint(int)", "int snapshot(int)", "int leave(int)", "int stay(int)", "int force(int)",
        "int back(int)", "boolean period(int)", "int tick()", "boolean power(int,int)", "boolean crash(int)",
        "int up(int)", "int pass(int,int)", "int message(int,int)", "int item(int,int,int)",
        "int read(int,int,int)", "int old(int,int,int,int)", "int sum(int,int)", "int differ(int,int,int)",
        "int state(int,int)", "int snap(int,int,int)", "int lost(int,int,int)", "int total(int)"
    };
    private static final String[] CONSTANTS = {"NONE", "BAD", "DOWN", "ROLE", "LIMIT", "FULL"};

    public static void main(String[] args) throws IllegalAccessException {
        Due due = new Due();
        Class<?> face = TwinVaults.class;
        due.is("the class is final", Modifier.isFinal(face.getModifiers()), true);
        Set<String> seen = new TreeSet<>();
        Set<String> names = new TreeSet<>();
        for (Method m : face.getDeclaredMethods()) {
            if (Modifier.isPublic(m.getModifiers())) {
                seen.add(told(m));
                names.add(m.getName());
            }
        }
        due.is("the public methods " + seen, seen.equals(new TreeSet<>(Arrays.asList(METHODS))), true);
        for (Method m : face.getDeclaredMethods()) {
            boolean open = Modifier.isPublic(m.getModifiers());
            due.is(m + " is public or private", open || Modifier.isPrivate(m.getModifiers()), true);
            due.is(m + " has a name of its own", open || !names.contains(m.getName()), true);
        }
        fields(due, face);
        Constructor<?>[] makers = face.getDeclaredConstructors();
        due.is("constructors", makers.length, 1);
        due.is("the constructor's numbers", makers[0].getParameterCount(), 3);
        for (Class<?> inside : face.getDeclaredClasses()) {
            due.is(inside + " is static", Modifier.isStatic(inside.getModifiers()), true);
            due.is(inside + " is not public", Modifier.isPublic(inside.getModifiers()), false);
        }
        due.is("classes, not more than twelve", face.getDeclaredClasses().length <= 11, true);
        due.end("FaceTest");
    }

    private static String told(Method m) {
        StringBuilder line = new StringBuilder(m.getReturnType() + " " + m.getName() + "(");
        for (int i = 0; i < m.getParameterCount(); i++) {
            line.append(i == 0 ? "" : ",").append(m.getParameterTypes()[i]);
        }
        return line.append(")").toString();
    }

    private static void fields(Due due, Class<?> face) throws IllegalAccessException {
        int open = 0;
        for (Field f : face.getDeclaredFields()) {
            if (Modifier.isPublic(f.getModifiers())) {
                open++;
                int k = Arrays.asList(CONSTANTS).indexOf(f.getName());
                due.is(f.getName(), f.getInt(null), k + 1 == 0 ? 0 : -(k + 1));
            } else {
                due.is(f + " is private", Modifier.isPrivate(f.getModifiers()), true);
            }
        }
        due.is("constants", open, CONSTANTS.length);
    }
}
