import java.lang.reflect.Constructor;
import java.lang.reflect.Field;
import java.lang.reflect.Member;
import java.lang.reflect.Method;
import java.lang.reflect.Modifier;
import java.util.Arrays;
import java.util.Set;
import java.util.TreeSet;
import java.util.stream.Collectors;

/** The face is that of the document, with its exceptions, and nothing else is to be seen. */
public final class FaceTest {
    private static final String INDEX = " throws IndexOutOfBoundsException";
    private static final String ARGUMENT = " throws IllegalArgumentException";
    private static final String STATE = " throws IllegalStateException";
    private static final String INDEX_ARGUMENT = INDEX + ", IllegalArgumentException";
    private static final String ALL = INDEX_ARGUMENT + ", IllegalStateException";

    private static final String[] FACE = {
        "int addNode()" + STATE,
        "int addLink(int, int, int, int, int)" + ALL,
        "int addPhase(int, int, int, int)" + ALL,
        "int dropSignal(int)" + INDEX,
        "int setRefresh(int)" + ARGUMENT,
        "boolean shut(int, boolean)" + INDEX,
        "int slow(int, int, int)" + INDEX_ARGUMENT,
        "int addFlow(int, int, int, int, int, int)" + ALL,
        "int step(int)" + ARGUMENT,
        "int clock()",
        "int nodes()",
        "int links()",
        "int flows()",
        "boolean isShut(int)" + INDEX,
        "int rateOf(int)" + INDEX,
        "int costOf(int)" + INDEX,
        "int phaseOf(int)" + INDEX,
        "int phaseTicks(int)" + INDEX,
        "int distance(int, int)" + INDEX,
        "int nextLink(int, int)" + INDEX,
        "int vehicles()",
        "int stateOf(int)" + INDEX,
        "int linkOf(int)" + INDEX,
        "int endOf(int)" + INDEX,
        "int linksOf(int)" + INDEX,
        "int linkAt(int, int)" + INDEX,
        "int tripOf(int)" + INDEX,
        "int delayOf(int)" + INDEX,
        "int waiting(int)" + INDEX,
        "int onLink(int)" + INDEX,
        "int vehicleAt(int, int)" + INDEX,
        "int queue(int)" + INDEX,
        "int count(int, int)" + INDEX_ARGUMENT,
        "int turned(int, int)" + INDEX,
        "int ofFlow(int, int)" + INDEX_ARGUMENT,
        "double meanTrip()",
        "int arrivesIn(int, int)" + INDEX_ARGUMENT,
        "int emptyIn(int)" + ARGUMENT,
        "int distanceWithout(int, int, int)" + INDEX,
        "long digest()",
    };

    private final Checks checks = new Checks("FaceTest");

    public static void main(String[] args) {
        FaceTest test = new FaceTest();
        test.theClass();
        test.theMethods();
        test.nothingElse();
        test.checks.end();
    }

    private void theClass() {
        int modifiers = Turnpike.class.getModifiers();
        checks.due("public final", true, Modifier.isPublic(modifiers) && Modifier.isFinal(modifiers));
        checks.due("no package", true, Turnpike.class.getPackageName().isEmpty());
        Constructor<?>[] made = Turnpike.class.getDeclaredConstructors();
        checks.due("constructors", 1, made.length);
        checks.due("public Turnpike()", true,
                Modifier.isPublic(made[0].getModifiers()) && made[0].getParameterCount() == 0);
    }

    private void theMethods() {
        Set<String> want = new TreeSet<>(Arrays.asList(FACE));
        Set<String> got = new TreeSet<>();
        for (Method method : Turnpike.class.getDeclaredMethods()) {
            if (Modifier.isPublic(method.getModifiers()) && !Modifier.isStatic(method.getModifiers())) {
                got.add(told(method));
            }
        }
        for (String method : want) {
            checks.due("has " + method, true, got.contains(method));
        }
        for (String method : got) {
            checks.due("should have " + method, true, want.contains(method));
        }
    }

    private static String told(Method method) {
        String takes = Arrays.stream(method.getParameterTypes()).map(Class::getSimpleName)
                .collect(Collectors.joining(", "));
        String fails = Arrays.stream(method.getExceptionTypes()).map(Class::getSimpleName)
                .collect(Collectors.joining(", "));
        return method.getReturnType().getSimpleName() + " " + method.getName() + "(" + takes + ")"
                + (fails.isEmpty() ? "" : " throws " + fails);
    }

    private void nothingElse() {
        Set<String> names = new TreeSet<>();
        for (Method method : Turnpike.class.getDeclaredMethods()) {
            if (Modifier.isPublic(method.getModifiers())) {
                names.add(method.getName());
            }
        }
        for (Method method : Turnpike.class.getDeclaredMethods()) {
            if (!Modifier.isPublic(method.getModifiers())) {
                isHidden(method);
                checks.due("a name of the face for " + method, false, names.contains(method.getName()));
            }
        }
        for (Field field : Turnpike.class.getDeclaredFields()) {
            isHidden(field);
        }
        for (Class<?> inside : Turnpike.class.getDeclaredClasses()) {
            checks.due("static " + inside, true, Modifier.isStatic(inside.getModifiers()));
            checks.due("public " + inside, false, Modifier.isPublic(inside.getModifiers()));
            for (Method method : inside.getDeclaredMethods()) {
                checks.due("a name of the face for " + method, false, names.contains(method.getName()));
            }
        }
    }

    private void isHidden(Member member) {
        checks.due("private " + member, true, Modifier.isPrivate(member.getModifiers()));
    }
}
