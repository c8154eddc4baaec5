import java.lang.reflect.Constructor;
import java.lang.reflect.Field;
import java.lang.reflect.Method;
import java.lang.reflect.Modifier;
import java.util.Arrays;
import java.util.Map;
import java.util.TreeMap;
import java.util.TreeSet;

/** The face of the class: all that the document shows, and nothing else. */
final class FaceTest {
    private static final String[] METHODS = {
        "int addTeam()", "int setSpeed(int,int,int)", "int setLength(int)", "int drawLanes(int)", "int start()",
        "int run(int)", "int pass(int)", "int drop(int,int)", "int withdraw(int)", "boolean protest(int,int,int)",
        "int teamCount()", "int runningCount()", "boolean isStarted()", "boolean isFinished()", "int clock()",
        "int length()", "int laneOf(int)", "int teamInLane(int)", "int speedOf(int,int)", "int positionOf(int)",
        "int legOf(int)", "boolean isRunning(int)", "boolean isInZone(int)", "int standingOf(int)",
        "int penaltyOf(int)", "boolean hasFoul(int,int)", "int splitOf(int,int)", "int splitSum(int)",
        "int timeOf(int)", "int resultOf(int)", "int teamAtRank(int)", "int rankOf(int)", "double meanTime()",
        "int reach(int,int,int)", "int reachByStretches(int,int,int)", "int secondsToZone(int)",
        "int refusalReason()", "int refusedTeam()", "int writeBanner(int)", "char bannerAt(int)", "int type(char)",
        "int execute()", "int errorPosition()", "int failedCommand()", "int undo()", "int save()", "int restore()"
    };

    private FaceTest() {
    }

    static void testMethods() {
        TreeSet<String> due = new TreeSet<>(Arrays.asList(METHODS));
        TreeSet<String> found = new TreeSet<>();
        for (Method method : QuillRelay.class.getDeclaredMethods()) {
            if (!Modifier.isPrivate(method.getModifiers()) && !method.isSynthetic()) {
                found.add(describe(method));
            }
        }
        Check.same(due, found);
    }

    private static String describe(Method method) {
        StringBuilder text = new StringBuilder();
        text.append(method.getReturnType()).append(' ').append(method.getName()).append('(');
        for (Class<?> parameter : method.getParameterTypes()) {
            text.append(text.charAt(text.length() - 1) == '(' ? "" : ",").append(parameter);
        }
        return text.append(')').toString();
    }

    static void testConstants() throws IllegalAccessException {
        Map<String, Integer> found = new TreeMap<>();
        for (Field field : QuillRelay.class.getDeclaredFields()) {
            if (!Modifier.isPrivate(field.getModifiers())) {
                Check.same(Modifier.PUBLIC | Modifier.STATIC | Modifier.FINAL, field.getModifiers());
                found.put(field.getName(), field.getInt(null));
            }
        }
        Check.same(Map.of("DROPPED", 1, "LAST_LEG", 2, "TOO_EARLY", 3, "LATE", 0, "DROP", 1), found);
    }

    static void testClassIsFinalWithOneConstructor() {
        Check.same(Modifier.PUBLIC | Modifier.FINAL, QuillRelay.class.getModifiers());
        Constructor<?>[] constructors = QuillRelay.class.getDeclaredConstructors();
        Check.same(1, constructors.length);
        Check.same(Modifier.PUBLIC, constructors[0].getModifiers());
        Check.same(0, constructors[0].getParameterCount());
    }

    static void testPrivateMethodsBearOtherNames() {
        TreeSet<String> taken = new TreeSet<>();
        for (String method : METHODS) {
            taken.add(method.substring(method.indexOf(' ') + 1, method.indexOf('(')));
        }
        for (Class<?> inside : QuillRelay.class.getDeclaredClasses()) {
            for (Method method : inside.getDeclaredMethods()) {
                Check.same(false, taken.contains(method.getName()));
            }
        }
        for (Method method : QuillRelay.class.getDeclaredMethods()) {
            if (Modifier.isPrivate(method.getModifiers())) {
                Check.same(false, taken.contains(method.getName()));
            }
        }
    }
}
