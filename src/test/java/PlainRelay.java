import java.util.ArrayList;
import java.util.Comparator;
import java.util.List;
import java.util.regex.Matcher;
import java.util.regex.Pattern;

/**
 * A second reading of the document, written apart from the class and in another way: it keeps the list of all
 * modifications and makes the race anew from it after an undo; texts are looked at with regular expressions.
 */
final class PlainRelay {
    private static final String COMMAND = "(?:start|run \\d{1,3}|pass \\d|drop \\d \\d{1,3}|quit \\d|protest \\d\\d[ld]"
            + "|speed \\d \\d \\d{1,3}|draw \\d{1,3})";
    private static final Pattern PROGRAM = Pattern.compile(COMMAND + "(?:;" + COMMAND + ")*");
    private static final Pattern WORD = Pattern.compile("[a-z]{2,}|\\d+|[ld]");

    /** An answer that is an exception. */
    private static final class Thrown extends RuntimeException {
        private static final long serialVersionUID = 1L;

        Thrown(String name) {
            super(name);
        }
    }

    private static final class Event {
        final String name;
        final int[] arguments;

        Event(String name, int... arguments) {
            this.name = name;
            this.arguments = arguments;
        }
    }

    private static final class Entrant {
        int lane;
        int penalty;
        int leg;
        int legStart;
        int secondsOnLeg;
        int standing;
        int finish = -1;
        boolean gone;
        boolean[] fouls = new boolean[2];
        int[] speeds = {60, 60, 60, 60};
        List<Integer> splits = new ArrayList<>();

        int sumOfSplits() {
            return splits.stream().mapToInt(Integer::intValue).sum();
        }
    }

    private List<Entrant> teams = new ArrayList<>();
    private boolean started;
    private int clock;
    private int length = 1000;

    private List<List<Event>> modifications = new ArrayList<>();
    private List<List<Event>> snapshot;
    private int undoable;
    private String buffer = "";
    private String banner = "";
    private Integer errorPosition;
    private Integer failedCommand;
    private Integer reason;
    private Integer refused;

    /** The answer to a call as a text: the value, or the name of the exception. */
    String answer(String name, int... a) {
        try {
            return String.valueOf(call(name, a));
        } catch (Thrown thrown) {
            return thrown.getMessage();
        }
    }

    private Object call(String name, int[] a) {
        switch (name) {
            case "addTeam": case "setSpeed": case "setLength": case "drawLanes": case "start":
            case "run": case "pass": case "drop": case "withdraw": case "protest":
                return modify(new Event(name, a));
            case "execute":
                return execute();
            case "undo":
                return undo();
            case "save":
                snapshot = new ArrayList<>(modifications);
                return clock;
            case "restore":
                return restore();
            case "type":
                return type((char) a[0]);
            case "writeBanner":
                banner = describe(team(a[0]), a[0]);
                return banner.length();
            case "bannerAt":
                require(a[0] >= 0 && a[0] < banner.length(), "IndexOutOfBoundsException");
                return banner.charAt(a[0]);
            case "errorPosition":
                return known(errorPosition);
            case "failedCommand":
                return known(failedCommand);
            case "refusalReason":
                return known(reason);
            case "refusedTeam":
                return known(refused);
            default:
                return a.length == 0 ? questionOfRace(name) : questionOfTeam(name, a);
        }
    }

    private static void require(boolean condition, String exception) {
        if (!condition) {
            throw new Thrown(exception);
        }
    }

    private static Object known(Integer value) {
        require(value != null, "NoSuchElementException");
        return value;
    }

    private Entrant team(int number) {
        require(number >= 0 && number < teams.size(), "IndexOutOfBoundsException");
        return teams.get(number);
    }

    // ---- modifications

    private Object modify(Event event) {
        Object answer = carryOut(event);
        noteModification(List.of(event));
        return answer;
    }

    private void noteModification(List<Event> events) {
        modifications.add(events);
        undoable = Math.min(8, undoable + 1);
    }

    private void replay() {
        teams = new ArrayList<>();
        started = false;
        clock = 0;
        length = 1000;
        modifications.forEach(events -> events.forEach(this::carryOut));
    }

    private Object undo() {
        require(undoable > 0, "IllegalStateException");
        undoable--;
        modifications.remove(modifications.size() - 1);
        replay();
        return undoable;
    }

    private Object restore() {
        require(snapshot != null, "IllegalStateException");
        modifications = new ArrayList<>(snapshot);
        undoable = 0;
        replay();
        return clock;
    }

    private Object carryOut(Event event) {
        int[] a = event.arguments;
        switch (event.name) {
            case "addTeam":
                require(!started && teams.size() < 6, "IllegalStateException");
                teams.add(new Entrant());
                teams.get(teams.size() - 1).lane = teams.size();
                return teams.size() - 1;
            case "setSpeed":
                return setSpeed(a[0], a[1], a[2]);
            case "setLength":
                require(a[0] >= 400 && a[0] <= 4000, "IllegalArgumentException");
                require(!started, "IllegalStateException");
                int previous = length;
                length = a[0];
                return previous;
            case "drawLanes":
                return drawLanes(a[0]);
            case "start":
                require(!started && !teams.isEmpty(), "IllegalStateException");
                started = true;
                return teams.size();
            case "run":
                return run(a[0]);
            case "pass":
                return pass(a[0]);
            case "drop":
                return drop(a[0], a[1]);
            case "withdraw":
                require(isRunning(team(a[0])), "IllegalStateException");
                team(a[0]).gone = true;
                return running();
            default:
                return protest(a[0], a[1], a[2]);
        }
    }

    private int setSpeed(int number, int leg, int speed) {
        Entrant team = team(number);
        require(leg >= 0 && leg < 4, "IndexOutOfBoundsException");
        require(speed >= 20 && speed <= 99, "IllegalArgumentException");
        require(!started, "IllegalStateException");
        int previous = team.speeds[leg];
        team.speeds[leg] = speed;
        return previous;
    }

    private int drawLanes(int seed) {
        require(seed >= 0 && seed <= 999, "IllegalArgumentException");
        require(!started && !teams.isEmpty(), "IllegalStateException");
        List<Integer> left = new ArrayList<>();
        for (int lane = 1; lane <= teams.size(); lane++) {
            left.add(lane);
        }
        int x = seed;
        for (Entrant team : teams) {
            x = (5 * x + 3) % 1000;
            team.lane = left.remove(x % left.size());
        }
        return teams.get(0).lane;
    }

    private int run(int seconds) {
        require(seconds >= 1 && seconds <= 200, "IllegalArgumentException");
        require(started, "IllegalStateException");
        int before = (int) teams.stream().filter(team -> team.finish >= 0).count();
        for (int second = 0; second < seconds; second++) {
            clock++;
            teams.stream().filter(this::isRunning).forEach(this::oneSecond);
        }
        return (int) teams.stream().filter(team -> team.finish >= 0).count() - before;
    }

    private void oneSecond(Entrant team) {
        if (team.standing > 0) {
            team.standing--;
            return;
        }
        team.secondsOnLeg++;
        if (team.leg == 3 && position(team) >= 4 * length) {
            team.finish = clock;
            team.splits.add(clock - team.sumOfSplits());
        }
    }

    /** Where the runner has come from the place of the last pass, at most to the place where it stands. */
    private int position(Entrant team) {
        int free = team.legStart + reach(team.speeds[team.leg], team.secondsOnLeg);
        return team.leg == 3 ? free : Math.min(free, end(team) + 300);
    }

    private static int reach(int speed, int seconds) {
        int sum = 0;
        for (int n = 0; n < seconds; n++) {
            sum += Math.max(10, speed - n / 10);
        }
        return sum;
    }

    private int end(Entrant team) {
        return length * (team.leg + 1);
    }

    private int pass(int number) {
        Entrant team = team(number);
        require(isRunning(team), "IllegalStateException");
        int problem = team.standing > 0 ? 1 : team.leg == 3 ? 2 : position(team) < end(team) - 100 ? 3 : 0;
        if (problem != 0) {
            reason = problem;
            refused = number;
            throw new Thrown("UnsupportedOperationException");
        }
        int split = clock - team.sumOfSplits();
        team.fouls[0] |= position(team) > end(team) + 100;
        team.legStart = position(team);
        team.secondsOnLeg = 0;
        team.leg++;
        team.splits.add(split);
        return split;
    }

    private int drop(int number, int seconds) {
        Entrant team = team(number);
        require(seconds >= 1 && seconds <= 20, "IllegalArgumentException");
        require(isRunning(team), "IllegalStateException");
        team.fouls[1] |= isInZone(team);
        team.standing += seconds;
        return team.standing;
    }

    private boolean protest(int by, int against, int kind) {
        Entrant protesting = team(by);
        Entrant other = team(against);
        require(by != against && (kind == 0 || kind == 1), "IllegalArgumentException");
        require(started, "IllegalStateException");
        boolean upheld = other.fouls[kind];
        other.fouls[kind] = false;
        other.penalty += upheld ? 10 : 0;
        protesting.penalty += upheld ? 0 : 5;
        return upheld;
    }

    // ---- questions

    private boolean isRunning(Entrant team) {
        return started && !team.gone && team.finish < 0;
    }

    private int running() {
        return (int) teams.stream().filter(this::isRunning).count();
    }

    private boolean isInZone(Entrant team) {
        return team.leg < 3 && Math.abs(position(team) - end(team)) <= 100;
    }

    private Object questionOfRace(String name) {
        switch (name) {
            case "teamCount":
                return teams.size();
            case "runningCount":
                return running();
            case "isStarted":
                return started;
            case "isFinished":
                return started && running() == 0;
            case "clock":
                return clock;
            case "length":
                return length;
            default:
                require(teams.stream().anyMatch(team -> team.finish >= 0), "ArithmeticException");
                return teams.stream().filter(team -> team.finish >= 0).mapToInt(team -> team.finish).average().getAsDouble();
        }
    }

    private Object questionOfTeam(String name, int[] a) {
        if (name.equals("teamInLane")) {
            return teams.indexOf(only(teams.stream().filter(team -> team.lane == a[0]).toList()));
        }
        if (name.equals("teamAtRank")) {
            require(a[0] >= 0 && a[0] < teams.size(), "NoSuchElementException");
            return teams.indexOf(ranking().get(a[0]));
        }
        Entrant team = team(a[0]);
        switch (name) {
            case "laneOf":
                return team.lane;
            case "positionOf":
                return position(team);
            case "legOf":
                return team.leg;
            case "isRunning":
                return isRunning(team);
            case "isInZone":
                return isInZone(team);
            case "standingOf":
                return team.standing;
            case "penaltyOf":
                return team.penalty;
            case "hasFoul":
                require(a[1] == 0 || a[1] == 1, "IllegalArgumentException");
                return team.fouls[a[1]];
            case "splitSum":
                return team.sumOfSplits();
            case "timeOf":
                require(team.finish >= 0, "NoSuchElementException");
                return team.finish;
            case "resultOf":
                require(team.finish >= 0, "NoSuchElementException");
                return team.finish + team.penalty;
            case "rankOf":
                return ranking().indexOf(team);
            case "secondsToZone":
                return secondsToZone(team);
            default:
                return questionOfLeg(name, team, a);
        }
    }

    private Object questionOfLeg(String name, Entrant team, int[] a) {
        require(a[1] >= 0 && a[1] < 4, "IndexOutOfBoundsException");
        switch (name) {
            case "speedOf":
                return team.speeds[a[1]];
            case "splitOf":
                require(a[1] < team.splits.size(), "NoSuchElementException");
                return team.splits.get(a[1]);
            default:
                require(a[2] >= 0 && a[2] <= 999, "IllegalArgumentException");
                return reach(team.speeds[a[1]], a[2]);
        }
    }

    private static Entrant only(List<Entrant> found) {
        require(found.size() == 1, "NoSuchElementException");
        return found.get(0);
    }

    private List<Entrant> ranking() {
        List<Entrant> ranked = new ArrayList<>(teams);
        ranked.sort(Comparator.comparingInt((Entrant team) -> team.finish >= 0 ? 0 : team.gone ? 2 : 1)
                .thenComparingInt(team -> team.finish >= 0 ? team.finish + team.penalty : -position(team))
                .thenComparingInt(team -> team.lane));
        return ranked;
    }

    private int secondsToZone(Entrant team) {
        require(isRunning(team), "IllegalStateException");
        require(team.leg < 3, "UnsupportedOperationException");
        if (position(team) >= end(team) - 100) {
            return 0;
        }
        int seconds = team.secondsOnLeg;
        while (team.legStart + reach(team.speeds[team.leg], seconds) < end(team) - 100) {
            seconds++;
        }
        return team.standing + seconds - team.secondsOnLeg;
    }

    private String describe(Entrant team, int number) {
        String state = !started ? "-" : team.gone ? "w" : team.finish >= 0 ? "f" + (team.finish + team.penalty) : "r" + team.leg;
        return "L" + team.lane + " " + state + " " + position(team) + (team.penalty == 0 ? "" : "+" + team.penalty);
    }

    // ---- programs

    private Object type(char character) {
        require(character >= 32 && character <= 126, "IllegalArgumentException");
        require(buffer.length() < 60, "IllegalStateException");
        buffer += character;
        return buffer.length();
    }

    private Object execute() {
        String text = buffer;
        buffer = "";
        if (!PROGRAM.matcher(text).matches()) {
            errorPosition = lengthOfViablePart(text);
            throw new Thrown("IllegalArgumentException");
        }
        List<Event> events = new ArrayList<>();
        for (String command : text.split(";")) {
            events.add(eventOf(command));
        }
        for (int index = 0; index < events.size(); index++) {
            try {
                carryOut(events.get(index));
            } catch (Thrown thrown) {
                failedCommand = index;
                Integer storedReason = reason;
                Integer storedTeam = refused;
                replay();
                reason = storedReason;
                refused = storedTeam;
                throw new Thrown("IllegalStateException");
            }
        }
        noteModification(events);
        return events.size();
    }

    /** A text can be continued to a program if the matcher wanted more characters, or if it is a program. */
    private static int lengthOfViablePart(String text) {
        int viable = 0;
        while (viable < text.length() && isViable(text.substring(0, viable + 1))) {
            viable++;
        }
        return viable;
    }

    private static boolean isViable(String text) {
        Matcher matcher = PROGRAM.matcher(text);
        return matcher.matches() || matcher.hitEnd();
    }

    private static Event eventOf(String command) {
        List<String> words = new ArrayList<>();
        Matcher matcher = WORD.matcher(command);
        while (matcher.find()) {
            words.add(matcher.group());
        }
        String verb = words.get(0);
        if (verb.equals("protest")) {
            int teams = Integer.parseInt(words.get(1));
            return new Event("protest", teams / 10, teams % 10, words.get(2).equals("l") ? 0 : 1);
        }
        int[] arguments = words.stream().skip(1).mapToInt(Integer::parseInt).toArray();
        switch (verb) {
            case "quit":
                return new Event("withdraw", arguments);
            case "speed":
                return new Event("setSpeed", arguments);
            case "draw":
                return new Event("drawLanes", arguments);
            default:
                return new Event(verb, arguments);
        }
    }
}
