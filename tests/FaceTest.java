import java.lang.reflect.Constructor;
import java.lang.reflect.Field;
import java.lang.reflect.Method;
import java.lang.reflect.Modifier;
import java.util.Arrays;
import java.util.Set;
import java.util.TreeSet;

/** The public face of the document, no more and no less, and what LANGUAGE.md asks of members. */
public final class FaceTest {
    private static final Check check = new Check("FaceTest");
    private static final String PLACE = "IndexOutOfBoundsException";
    private static final String ARGUMENT = "IllegalArgumentException";
    private static final String STATE = "IllegalStateException";

    public static void main(String[] args) {
        Set<String> due = new TreeSet<>();
        for (String[] method : face()) {
            due.add(String.join(" ", method));
        }
        Set<String> found = new TreeSet<>();
        for (Method method : CoverMeter.class.getDeclaredMethods()) {
            if (!Modifier.isPrivate(method.getModifiers())) {
                found.add(told(method));
            }
        }
        check.holds("the face " + found + " being " + due, found.equals(due));
        theClassItself();
        theNamesOfPrivateMethods(CoverMeter.class);
        for (Class<?> inside : CoverMeter.class.getDeclaredClasses()) {
            check.holds(inside + " being private and static",
                    Modifier.isPrivate(inside.getModifiers()) && Modifier.isStatic(inside.getModifiers()));
            theNamesOfPrivateMethods(inside);
            theFields(inside);
        }
        theFields(CoverMeter.class);
        check.is("NONE", CoverMeter.NONE, -1);
        check.end();
    }

    private static String[][] face() {
        return new String[][] {
            {"int set(int, int)", ARGUMENT},
            {"int addPerson(long)", ARGUMENT, STATE},
            {"int roster(int, int, boolean)", PLACE, ARGUMENT, STATE},
            {"int absent(int, int)", PLACE, ARGUMENT, STATE},
            {"int bid(int, int, int)", PLACE, ARGUMENT, STATE},
            {"int takeBack(int, int)", PLACE, STATE},
            {"int cover(int)", PLACE, STATE},
            {"int coverAll()"},
            {"int handOver(int, int)", PLACE, STATE},
            {"int giveUp(int)", PLACE, STATE},
            {"int person(int, int)", PLACE, ARGUMENT},
            {"long work(int)", PLACE},
            {"int absence(int, int)", PLACE, ARGUMENT},
            {"int bidOf(int, int)", PLACE},
            {"int why(int, int)", PLACE},
            {"int value(int)", ARGUMENT},
            {"int setting(int)", ARGUMENT},
            {"int coverer(int)", PLACE},
            {"int coveredWith(int)", ARGUMENT},
            {"int mostCovered()"},
            {"int freeShifts(int)", PLACE},
            {"double spread()"},
            {"int append(int)", ARGUMENT, STATE},
            {"int clearText()"},
            {"int carryOut()"},
            {"int undo()", STATE},
            {"long digest()"},
        };
    }

    private static String told(Method method) {
        StringBuilder text = new StringBuilder();
        if (method.getModifiers() != Modifier.PUBLIC) {
            text.append(Modifier.toString(method.getModifiers())).append(' ');
        }
        String types = Arrays.toString(method.getParameterTypes());
        text.append(method.getReturnType()).append(' ').append(method.getName());
        text.append('(').append(types, 1, types.length() - 1).append(')');
        for (Class<?> thrown : method.getExceptionTypes()) {
            text.append(' ').append(thrown.getSimpleName());
        }
        return text.toString();
    }

    private static void theClassItself() {
        Class<?> face = CoverMeter.class;
        check.is("its modifiers", face.getModifiers(), Modifier.PUBLIC | Modifier.FINAL);
        check.holds("no class above it", face.getSuperclass() == Object.class);
        check.is("its interfaces", face.getInterfaces().length, 0);
        check.is("its classes", face.getDeclaredClasses().length <= 12 ? 1 : 0, 1);
        Constructor<?>[] constructors = face.getDeclaredConstructors();
        check.is("its constructors", constructors.length, 1);
        check.is("its constructor's modifiers", constructors[0].getModifiers(), Modifier.PUBLIC);
        check.is("its constructor's parameters", constructors[0].getParameterCount(), 0);
        for (Field field : face.getDeclaredFields()) {
            check.holds(field + " being private, or NONE",
                    Modifier.isPrivate(field.getModifiers()) || field.getName().equals("NONE"));
        }
    }

    private static void theNamesOfPrivateMethods(Class<?> holder) {
        Set<String> names = new TreeSet<>();
        for (String[] method : face()) {
            names.add(method[0].substring(method[0].indexOf(' ') + 1, method[0].indexOf('(')));
        }
        for (Method method : holder.getDeclaredMethods()) {
            boolean ofTheFace = holder == CoverMeter.class && Modifier.isPublic(method.getModifiers());
            check.holds(method + " bearing a name of its own", ofTheFace || !names.contains(method.getName()));
            check.holds(method + " taking at most seven parameters", method.getParameterCount() <= 7);
        }
    }

    private static void theFields(Class<?> holder) {
        int own = 0;
        for (Field field : holder.getDeclaredFields()) {
            if (Modifier.isStatic(field.getModifiers())) {
                check.holds(field + " being final", Modifier.isFinal(field.getModifiers()));
            } else {
                own++;
            }
        }
        check.holds(holder + " having at most twenty fields", own <= 20);
    }
}
