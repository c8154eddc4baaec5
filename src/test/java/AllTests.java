import java.lang.reflect.InvocationTargetException;
import java.lang.reflect.Method;
import java.util.Arrays;
import java.util.Comparator;
import java.util.regex.Matcher;
import java.util.regex.Pattern;

/** Runs every test of the project; a test is a static method without parameters in one of these classes. */
public final class AllTests {
    private static final Class<?>[] CLASSES = {
        FaceTest.class, PreparingTest.class, RacingTest.class, RaceQuestionsTest.class, TeamQuestionsTest.class,
        PredictionsTest.class, BannerTest.class, ProgramTest.class, UndoTest.class, ModelTest.class,
        PreparingEdgesTest.class, RacingEdgesTest.class, QuestionEdgesTest.class, PredictionEdgesTest.class,
        BannerEdgesTest.class, ProgramEdgesTest.class, UndoEdgesTest.class, ReadmeTest.class
    };
    private static final int PROMISES = 48;
    private static final Pattern NAME = Pattern.compile("promise(\\d+)[A-Z].*");

    private static int passed = 0;
    private static int failed = 0;
    private static final boolean[] TESTED = new boolean[PROMISES + 1];

    private AllTests() {
    }

    public static void main(String[] args) throws IllegalAccessException {
        for (Class<?> tests : CLASSES) {
            Method[] methods = tests.getDeclaredMethods();
            Arrays.sort(methods, Comparator.comparing(Method::getName));
            for (Method method : methods) {
                if (isTest(method)) {
                    run(method);
                }
            }
        }
        reportPromisesWithoutTest();
        System.out.println(passed + " passed, " + failed + " failed");
        if (failed != 0) {
            System.exit(1);
        }
    }

    private static boolean isTest(Method method) {
        return NAME.matcher(method.getName()).matches() || method.getName().startsWith("test");
    }

    private static void run(Method method) throws IllegalAccessException {
        Matcher matcher = NAME.matcher(method.getName());
        if (matcher.matches()) {
            TESTED[Integer.parseInt(matcher.group(1))] = true;
        }
        try {
            method.invoke(null);
            passed++;
        } catch (InvocationTargetException exception) {
            failed++;
            System.out.println(method.getDeclaringClass().getSimpleName() + "." + method.getName());
            exception.getCause().printStackTrace(System.out);
        }
    }

    private static void reportPromisesWithoutTest() {
        for (int promise = 1; promise <= PROMISES; promise++) {
            if (!TESTED[promise]) {
                failed++;
                System.out.println("promise " + promise + " has no test");
            }
        }
    }
}
