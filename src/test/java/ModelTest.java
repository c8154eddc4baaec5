import java.lang.reflect.InvocationTargetException;
import java.lang.reflect.Method;
import java.util.HashMap;
import java.util.Map;

/** Long runs of calls, each at most 512 calls on one object, whose answers PlainRelay must give as well. */
final class ModelTest {
    private static final int RUNS = 1500;
    private static final int CALLS = 512;
    private static final Map<String, Method> METHODS = new HashMap<>();

    private static final String[] QUESTIONS_OF_RACE = {"teamCount", "runningCount", "isStarted", "isFinished", "clock",
        "length", "meanTime", "refusalReason", "refusedTeam", "errorPosition", "failedCommand"};
    private static final String[] QUESTIONS_OF_TEAM = {"laneOf", "positionOf", "legOf", "isRunning", "isInZone",
        "standingOf", "penaltyOf", "splitSum", "timeOf", "resultOf", "rankOf", "secondsToZone", "writeBanner",
        "teamInLane", "teamAtRank"};
    private static final String[] QUESTIONS_OF_LEG = {"speedOf", "splitOf", "hasFoul"};
    private static final int[] EXTREMES = {Integer.MIN_VALUE, Integer.MAX_VALUE, Integer.MIN_VALUE + 1, -1000000, 1 << 30};
    private static final String[] WORDS = {"start", "run ", "pass ", "drop ", "quit ", "protest ", "speed ", "draw ",
        ";", " ", "l", "d", "0", "1", "16", "200", "2", "x", "st", "pr"};

    /** The calls that have been made so far, with which a wrong answer is told. */
    private final StringBuilder told = new StringBuilder();
    private final QuillRelay relay = new QuillRelay();
    private final PlainRelay plain = new PlainRelay();
    private int chance;
    private int calls;

    private ModelTest(int seed) {
        chance = seed;
    }

    static void testLongRuns() {
        for (Method method : QuillRelay.class.getDeclaredMethods()) {
            METHODS.put(method.getName(), method);
        }
        for (int seed = 1; seed <= RUNS; seed++) {
            new ModelTest(seed * 7919).play();
        }
    }

    /** A number from 0 to below the limit, from a sequence that is the same each time. */
    private int pick(int limit) {
        chance = chance * 1103515245 + 12345;
        return (chance >>> 16) % limit;
    }

    private void play() {
        boolean typing = pick(3) == 0;
        int teams = pick(7);
        for (int team = 0; team < teams; team++) {
            compare("addTeam");
        }
        if (pick(3) > 0) {
            compare("setLength", 400 + pick(300));
        }
        int changes = pick(12);
        for (int change = 0; change < changes; change++) {
            compare("setSpeed", team(), leg(), 20 + pick(80));
        }
        while (calls < CALLS) {
            step(typing);
        }
    }

    private void step(boolean typing) {
        int kind = pick(100);
        if (kind < 3) {
            prepareMore();
        } else if (kind < 6) {
            compare("start");
        } else if (kind < 40) {
            race();
        } else if (kind < 43) {
            compare("undo");
        } else if (kind < 44) {
            compare(pick(3) == 0 ? "restore" : "save");
        } else if (kind < 50 && typing) {
            program();
        } else {
            ask();
        }
    }

    private void prepareMore() {
        switch (pick(4)) {
            case 0:
                compare("addTeam");
                break;
            case 1:
                compare("setSpeed", team(), leg(), 18 + pick(84));
                break;
            case 2:
                compare("setLength", pick(2) == 0 ? 398 + pick(4) : 3998 + pick(5));
                break;
            default:
                compare("drawLanes", pick(1004) - 2);
                break;
        }
    }

    private void race() {
        switch (pick(10)) {
            case 0: case 1: case 2: case 3:
                compare("run", pick(12) == 0 ? pick(204) - 1 : 1 + pick(9));
                break;
            case 4: case 5: case 6: case 7:
                compare("pass", team());
                break;
            case 8:
                compare("drop", team(), pick(8) == 0 ? pick(25) - 1 : 1 + pick(4));
                break;
            default:
                if (pick(12) == 0) {
                    compare("withdraw", team());
                } else {
                    compare("protest", team(), team(), pick(9) == 0 ? pick(5) - 1 : pick(2));
                }
                break;
        }
    }

    private void ask() {
        switch (pick(8)) {
            case 0:
                compare(QUESTIONS_OF_RACE[pick(QUESTIONS_OF_RACE.length)]);
                break;
            case 1:
                compare(QUESTIONS_OF_LEG[pick(QUESTIONS_OF_LEG.length)], team(), leg());
                break;
            case 2:
                compare(pick(2) == 0 ? "reach" : "reachByStretches", team(), leg(), pick(1004) - 2);
                break;
            case 3:
                compare("bannerAt", pick(18) - 1);
                break;
            default:
                compare(QUESTIONS_OF_TEAM[pick(QUESTIONS_OF_TEAM.length)], team());
                break;
        }
    }

    private int team() {
        return pick(12) == 0 ? pick(10) - 2 : pick(6);
    }

    private int leg() {
        return pick(12) == 0 ? pick(8) - 2 : pick(4);
    }

    private void program() {
        StringBuilder text = new StringBuilder();
        int parts = pick(4);
        for (int part = 0; part <= parts; part++) {
            text.append(part == 0 ? "" : ";").append(command());
        }
        if (pick(4) == 0) {
            text.insert(pick(text.length() + 1), WORDS[pick(WORDS.length)]);
        }
        if (pick(8) == 0) {
            text.setLength(pick(text.length() + 1));
        }
        for (int index = 0; index < text.length(); index++) {
            compare("type", pick(200) == 0 ? pick(140) : text.charAt(index));
        }
        compare("execute");
    }

    private String command() {
        switch (pick(10)) {
            case 0:
                return "start";
            case 1: case 2:
                return "run " + pick(12);
            case 3: case 4:
                return "pass " + pick(7);
            case 5:
                return "drop " + pick(7) + " " + pick(6);
            case 6:
                return pick(6) == 0 ? "quit " + pick(7) : "run 7";
            case 7:
                return "protest " + pick(7) + pick(7) + "ld".charAt(pick(2));
            case 8:
                return "speed " + pick(7) + " " + pick(5) + " " + (18 + pick(84));
            default:
                return "draw " + pick(1000);
        }
    }

    private void compare(String name, int... arguments) {
        if (calls >= CALLS) {
            return;
        }
        calls++;
        makeExtreme(arguments, name.equals("type") ? 0 : pick(100));
        told.append(name).append(java.util.Arrays.toString(arguments));
        String due = plain.answer(name, arguments);
        String answer = invoke(name, arguments);
        told.append(" = ").append(answer).append('\n');
        if (!due.equals(answer)) {
            throw new AssertionError(told + "due is " + due);
        }
    }

    /** Now and then an argument is as far out of range as it can be. */
    private void makeExtreme(int[] arguments, int lot) {
        if (lot == 1 && arguments.length > 0) {
            arguments[pick(arguments.length)] = EXTREMES[pick(EXTREMES.length)];
        }
    }

    private String invoke(String name, int[] arguments) {
        Object[] given = new Object[arguments.length];
        for (int index = 0; index < given.length; index++) {
            given[index] = name.equals("type") ? (Object) (char) arguments[index] : (Object) arguments[index];
        }
        try {
            return String.valueOf(METHODS.get(name).invoke(relay, given));
        } catch (InvocationTargetException exception) {
            return exception.getCause().getClass().getSimpleName();
        } catch (IllegalAccessException exception) {
            throw new AssertionError(exception);
        }
    }
}
