import java.lang.reflect.Constructor;
import java.lang.reflect.Field;
import java.lang.reflect.Method;
import java.lang.reflect.Modifier;
import java.util.ArrayList;
import java.util.List;
import java.util.TreeSet;

/** Compares the members of the class with the public face of the document. */
public final class FaceTest {
    private static final String INDEX = " throws java.lang.IndexOutOfBoundsException";
    private static final String ARGUMENT = " throws java.lang.IllegalArgumentException";
    private static final String BOTH = INDEX + ",java.lang.IllegalArgumentException";

    private static final String[] METHODS = {
        "int append(long)", "int load()", "int loadError()", "int nodeNamed()", "int nodeCount()",
        "int linkCount()", "int nameLetter(int,int)" + INDEX, "int linkValue(int,int)" + BOTH,
        "int setting(int)" + ARGUMENT, "int setSetting(int,int)" + ARGUMENT,
        "int setCapacity(int,int)" + BOTH, "int takeDown(int)" + INDEX, "int bringUp(int)" + INDEX,
        "int request(int,int,int,int)" + BOTH, "int cancel(int)" + INDEX, "int extend(int)" + INDEX,
        "int advance(int)" + ARGUMENT, "int time()", "int requestCount()",
        "int requestValue(int,int)" + BOTH, "int pathLength(int)" + INDEX, "int pathLink(int,int)" + INDEX,
        "int placeOf(int)" + INDEX, "int inState(int)" + ARGUMENT, "int requestInState(int,int)" + ARGUMENT,
        "int ticketCount()", "int ticketValue(int,int)" + BOTH, "int ticketOn(int,int)" + INDEX,
        "int ticketsInState(int)" + ARGUMENT, "int ticketsOf(int,int)" + BOTH, "long revenue()",
        "long refunds()", "int nextExpiry()", "int nextEvent()", "boolean isSafe()",
        "int cheapest(int,int,int)" + BOTH, "int cheapestLink(int,int,int,int)" + BOTH,
        "int roundTrip(int,int,int)" + BOTH, "int neededHold(int,int,int)" + BOTH,
        "int widest(int,int)" + BOTH, "int greatestFlow(int,int)" + BOTH, "int smallestCut(int,int)" + BOTH,
        "int disjointPaths(int,int,int)" + BOTH, "int reachable(int,int)" + BOTH,
        "int criticalLinks(int,int,int)" + BOTH, "int ticksUntilActive(int)" + INDEX,
        "int ticksForNew(int,int,int)" + BOTH, "int greatestNew(int,int)" + BOTH,
        "long revenueAfter(int)" + ARGUMENT, "int availableAfter(int,int)" + BOTH,
        "int ticksUntilAvailable(int,int)" + BOTH, "int stateAfter(int,int)" + BOTH,
        "int activeWithout(int,int)" + BOTH, "int ticksUntilQuiet()", "int saveSnapshot(int)" + ARGUMENT,
        "int restoreSnapshot(int)" + ARGUMENT,
    };

    private FaceTest() {
    }

    public static void main(String[] args) throws Exception {
        Checks checks = new Checks("FaceTest");
        Class<?> type = PathReservations.class;
        checks.equal("the class is public and final", type.getModifiers(), Modifier.PUBLIC | Modifier.FINAL);
        checks.same("methods", listedMethods(type), new TreeSet<>(List.of(METHODS)));
        for (Method method : type.getDeclaredMethods()) {
            checks.equal(method + " is public or private", isHidden(method.getModifiers()), 0);
        }
        Constructor<?>[] constructors = type.getDeclaredConstructors();
        checks.equal("number of constructors", constructors.length, 1);
        checks.equal("the constructor is public", constructors[0].getModifiers(), Modifier.PUBLIC);
        checks.equal("the constructor's parameters", constructors[0].getParameterCount(), 0);
        checks.same("constants", listedConstants(type), List.of("FULL=-2", "NONE=-1", "WRONG_STATE=-3"));
        checkInnerClasses(checks, type);
        checks.end();
    }

    private static TreeSet<String> listedMethods(Class<?> type) {
        TreeSet<String> found = new TreeSet<>();
        for (Method method : type.getDeclaredMethods()) {
            if (Modifier.isPublic(method.getModifiers())) {
                found.add(method.toGenericString().replace("public ", "").replace("PathReservations.", ""));
            }
        }
        return found;
    }

    private static List<String> listedConstants(Class<?> type) throws IllegalAccessException {
        List<String> found = new ArrayList<>();
        for (Field field : type.getFields()) {
            found.add(field.getName() + "=" + field.getInt(null));
        }
        found.sort(null);
        return found;
    }

    /** 1 for members that are neither public nor private: the face has none of them. */
    private static int isHidden(int modifiers) {
        return Modifier.isPublic(modifiers) || Modifier.isPrivate(modifiers) ? 0 : 1;
    }

    private static void checkInnerClasses(Checks checks, Class<?> type) {
        for (Field field : type.getDeclaredFields()) {
            checks.equal(field + " is public or private", isHidden(field.getModifiers()), 0);
            boolean isState = Modifier.isStatic(field.getModifiers()) && !Modifier.isFinal(field.getModifiers());
            checks.equal(field + " is no static state", isState ? 1 : 0, 0);
        }
        for (Class<?> inner : type.getDeclaredClasses()) {
            boolean fits = Modifier.isStatic(inner.getModifiers()) && !Modifier.isPublic(inner.getModifiers())
                && !Modifier.isProtected(inner.getModifiers());
            checks.equal(inner + " is static and not public", fits ? 1 : 0, 1);
        }
    }
}
