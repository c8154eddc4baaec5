import java.util.NoSuchElementException;

/** A simulator of a relay race in which runners pass a quill. */
public final class QuillRelay {
    /** Reasons for which a pass is refused. */
    public static final int DROPPED = 1, LAST_LEG = 2, TOO_EARLY = 3;
    /** Kinds of fouls. */
    public static final int LATE = 0, DROP = 1;

    private static final int MAX_TEAMS = 6;
    private static final int LEGS = 4;
    private static final int FINAL_LEG = 3;
    private static final int MIN_SPEED = 20, MAX_SPEED = 99, FIRST_SPEED = 60;
    private static final int MIN_LENGTH = 400, MAX_LENGTH = 4000, FIRST_LENGTH = 1000;
    private static final int MAX_SEED = 999;
    private static final int MAX_RUN = 200;
    private static final int MAX_DROP = 20;
    private static final int MAX_REACH = 999;
    private static final int LEAST_PACE = 10;
    private static final int TIRING = 10;
    private static final int ZONE = 100;
    private static final int FARTHEST = 300;
    private static final int UPHELD_PENALTY = 10, REJECTED_PENALTY = 5;
    private static final int MAX_BUFFER = 60;
    private static final int FIRST_CHARACTER = 32, LAST_CHARACTER = 126;
    private static final int UNDO_DEPTH = 8;
    private static final int MANY = 1000000;
    private static final int NOTHING = -1;
    private static final int NO_REFUSAL = 0;

    private final Race race;
    private final Race before;
    private final Race snapshot;
    private final History history;
    private final Program program;
    private final StringBuilder banner;
    private boolean snapshotTaken;
    private int lastReason;
    private int lastRefusedTeam;
    private int lastError;
    private int lastFailure;

    /** Creates a prepared race without teams. */
    public QuillRelay() {
        race = new Race();
        before = new Race();
        snapshot = new Race();
        history = new History();
        program = new Program();
        banner = new StringBuilder();
        snapshotTaken = false;
        lastReason = NO_REFUSAL;
        lastRefusedTeam = NOTHING;
        lastError = NOTHING;
        lastFailure = NOTHING;
    }

    // ---- preparing

    /** Adds a team and returns its number. */
    public int addTeam() throws IllegalStateException {
        raise(race.faultOfEntering());
        history.push(race);
        return race.enterTeam();
    }

    /** Sets the speed of a runner and returns the previous one. */
    public int setSpeed(int team, int leg, int speed) throws IndexOutOfBoundsException, IllegalArgumentException, IllegalStateException {
        raise(race.faultOfSpeed(team, leg, speed));
        history.push(race);
        return teamWith(team).changeSpeed(leg, speed);
    }

    /** Sets the length of the legs and returns the previous one. */
    public int setLength(int decimetres) throws IllegalArgumentException, IllegalStateException {
        raise(race.faultOfLength(decimetres));
        history.push(race);
        int previous = race.legLength;
        race.legLength = decimetres;
        return previous;
    }

    /** Draws the lanes and returns the lane of team 0. */
    public int drawLanes(int seed) throws IllegalArgumentException, IllegalStateException {
        raise(race.faultOfDrawing(seed));
        history.push(race);
        race.shuffleLanes(seed);
        return teamWith(0).lane;
    }

    /** Starts the race and returns the number of teams. */
    public int start() throws IllegalStateException {
        raise(race.faultOfStarting());
        history.push(race);
        race.begin();
        return race.countEntered();
    }

    // ---- racing

    /** Lets seconds pass and returns the number of teams that finish. */
    public int run(int seconds) throws IllegalArgumentException, IllegalStateException {
        raise(race.faultOfRunning(seconds));
        history.push(race);
        return race.letSecondsPass(seconds);
    }

    /** Passes the quill of a team to the next runner and returns the seconds since its last pass. */
    public int pass(int team) throws IndexOutOfBoundsException, IllegalStateException, UnsupportedOperationException {
        raise(faultOfPassing(team));
        history.push(race);
        return race.handOver(teamWith(team));
    }

    /** Drops the quill of a team and returns the seconds for which it stands now. */
    public int drop(int team, int seconds) throws IndexOutOfBoundsException, IllegalArgumentException, IllegalStateException {
        raise(race.faultOfDropping(team, seconds));
        history.push(race);
        return race.dropQuill(teamWith(team), seconds);
    }

    /** Withdraws a team that is running and returns the number of teams that still run. */
    public int withdraw(int team) throws IndexOutOfBoundsException, IllegalStateException {
        raise(race.faultOfWithdrawing(team));
        history.push(race);
        teamWith(team).stage = Stage.WITHDRAWN;
        return race.countRunning();
    }

    /** Protests against a foul and returns whether the protest is upheld. */
    public boolean protest(int by, int against, int kind) throws IndexOutOfBoundsException, IllegalArgumentException, IllegalStateException {
        raise(race.faultOfProtesting(by, against, kind));
        history.push(race);
        return race.judge(teamWith(by), teamWith(against), kind);
    }

    // ---- questions about the race

    /** Returns the number of teams. */
    public int teamCount() {
        return race.countEntered();
    }

    /** Returns the number of teams that are running. */
    public int runningCount() {
        return race.countRunning();
    }

    /** Returns whether the race has been started, be it finished or not. */
    public boolean isStarted() {
        return race.begun;
    }

    /** Returns whether the race is finished. */
    public boolean isFinished() {
        return race.begun && race.countRunning() == 0;
    }

    /** Returns the number of seconds that have passed. */
    public int clock() {
        return race.secondsPassed;
    }

    /** Returns the length of the legs in decimetres. */
    public int length() {
        return race.legLength;
    }

    // ---- questions about teams

    /** Returns the lane of a team. */
    public int laneOf(int team) throws IndexOutOfBoundsException {
        return teamWith(team).lane;
    }

    /** Returns the team in a lane. */
    public int teamInLane(int lane) throws NoSuchElementException {
        int number = race.numberInLane(lane);
        if (number == NOTHING) {
            throw new NoSuchElementException("no team in this lane");
        }
        return number;
    }

    /** Returns the speed of a runner. */
    public int speedOf(int team, int leg) throws IndexOutOfBoundsException {
        return teamWithLeg(team, leg).speedOn(leg);
    }

    /** Returns the position of a team in decimetres. */
    public int positionOf(int team) throws IndexOutOfBoundsException {
        return teamWith(team).position;
    }

    /** Returns the leg whose runner carries the quill. */
    public int legOf(int team) throws IndexOutOfBoundsException {
        return teamWith(team).leg;
    }

    /** Returns whether a team is running. */
    public boolean isRunning(int team) throws IndexOutOfBoundsException {
        return teamWith(team).stage == Stage.RUNNING;
    }

    /** Returns whether the position of a team is in the zone of its leg. */
    public boolean isInZone(int team) throws IndexOutOfBoundsException {
        return teamWith(team).inZone(race.legLength);
    }

    /** Returns the seconds for which a team still stands for a dropped quill. */
    public int standingOf(int team) throws IndexOutOfBoundsException {
        return teamWith(team).standing;
    }

    /** Returns the penalty of a team in seconds. */
    public int penaltyOf(int team) throws IndexOutOfBoundsException {
        return teamWith(team).penalty;
    }

    /** Returns whether a team has a foul. */
    public boolean hasFoul(int team, int kind) throws IndexOutOfBoundsException, IllegalArgumentException {
        Team asked = teamWith(team);
        if (!isKind(kind)) {
            throw new IllegalArgumentException("no such kind of foul");
        }
        return asked.committed(kind);
    }

    /** Returns the seconds that a team has taken for a leg. */
    public int splitOf(int team, int leg) throws IndexOutOfBoundsException, NoSuchElementException {
        Team asked = teamWithLeg(team, leg);
        if (!asked.hasEnded(leg)) {
            throw new NoSuchElementException("the leg has not ended");
        }
        return at(asked.splits, leg);
    }

    /** Returns the sum of the split times of a team. */
    public int splitSum(int team) throws IndexOutOfBoundsException {
        int sum = 0;
        for (int split : teamWith(team).splits) {
            sum += split;
        }
        return sum;
    }

    /** Returns the time of a team that has finished. */
    public int timeOf(int team) throws IndexOutOfBoundsException, NoSuchElementException {
        return finishedTeamWith(team).time;
    }

    /** Returns the time plus the penalty of a team that has finished. */
    public int resultOf(int team) throws IndexOutOfBoundsException, NoSuchElementException {
        return finishedTeamWith(team).result();
    }

    /** Returns a team by its rank. */
    public int teamAtRank(int rank) throws NoSuchElementException {
        int number = race.numberAtRank(rank);
        if (number == NOTHING) {
            throw new NoSuchElementException("no such rank");
        }
        return number;
    }

    /** Returns the rank of a team, from 0. */
    public int rankOf(int team) throws IndexOutOfBoundsException {
        return race.countAhead(teamWith(team));
    }

    /** Returns the mean time of the teams that have finished, without penalties. */
    public double meanTime() throws ArithmeticException {
        int finished = race.countFinished();
        if (finished == 0) {
            throw new ArithmeticException("no team has finished");
        }
        return (double) race.sumOfTimes() / (double) finished;
    }

    // ---- predictions and refusals

    /** Returns how far a fresh runner would get, second by second. */
    public int reach(int team, int leg, int seconds) throws IndexOutOfBoundsException, IllegalArgumentException {
        int speed = speedForReach(team, leg, seconds);
        int distance = 0;
        for (int second = 0; second < seconds; second++) {
            distance += pace(speed, second);
        }
        return distance;
    }

    /** Returns the same number as reach, by adding up whole stretches of 10 seconds. */
    public int reachByStretches(int team, int leg, int seconds) throws IndexOutOfBoundsException, IllegalArgumentException {
        int speed = speedForReach(team, leg, seconds);
        int whole = seconds - seconds % TIRING;
        int distance = 0;
        for (int second = 0; second < whole; second += TIRING) {
            distance += TIRING * pace(speed, second);
        }
        return distance + (seconds - whole) * pace(speed, whole);
    }

    /** Returns the seconds until a running team is in the zone of its leg or behind it. */
    public int secondsToZone(int team) throws IndexOutOfBoundsException, IllegalStateException, UnsupportedOperationException {
        Team asked = teamWith(team);
        if (asked.stage != Stage.RUNNING) {
            throw new IllegalStateException("the team is not running");
        }
        if (asked.leg >= FINAL_LEG) {
            throw new UnsupportedOperationException("the last runner carries the quill");
        }
        return asked.secondsUntilZone(race.legLength);
    }

    /** Returns the reason of the last refusal of a pass. */
    public int refusalReason() throws NoSuchElementException {
        if (lastReason == NO_REFUSAL) {
            throw new NoSuchElementException("no pass was refused");
        }
        return lastReason;
    }

    /** Returns the team of the last refusal of a pass. */
    public int refusedTeam() throws NoSuchElementException {
        if (lastReason == NO_REFUSAL) {
            throw new NoSuchElementException("no pass was refused");
        }
        return lastRefusedTeam;
    }

    // ---- banner and commands

    /** Writes the banner of a team, in place of the banner before, and returns its length. */
    public int writeBanner(int team) throws IndexOutOfBoundsException {
        Team shown = teamWith(team);
        banner.setLength(0);
        banner.append('L').append(shown.lane).append(' ');
        appendStage(shown);
        banner.append(' ').append(shown.position);
        if (shown.penalty != 0) {
            banner.append('+').append(shown.penalty);
        }
        return banner.length();
    }

    /** Returns a character of the banner. */
    public char bannerAt(int index) throws IndexOutOfBoundsException {
        if (index < 0 || index >= banner.length()) {
            throw new IndexOutOfBoundsException("no such character");
        }
        return banner.charAt(index);
    }

    /** Appends a character to the buffer and returns the number of characters in it. */
    public int type(char character) throws IllegalArgumentException, IllegalStateException {
        if (character < FIRST_CHARACTER || character > LAST_CHARACTER) {
            throw new IllegalArgumentException("the character is not from 32 to 126");
        }
        if (program.text.length() >= MAX_BUFFER) {
            throw new IllegalStateException("the buffer is full");
        }
        program.text.append(character);
        return program.text.length();
    }

    /** Executes the program in the buffer, all commands of it or none, and returns their number. */
    public int execute() throws IllegalArgumentException, IllegalStateException {
        int error = program.findError();
        int failure = error == NOTHING ? performAll() : NOTHING;
        program.text.setLength(0);
        if (error != NOTHING) {
            lastError = error;
            throw new IllegalArgumentException("the program is malformed");
        }
        if (failure != NOTHING) {
            lastFailure = failure;
            throw new IllegalStateException("a command failed");
        }
        return program.commands;
    }

    /** Returns the error position of the last malformed program. */
    public int errorPosition() throws NoSuchElementException {
        if (lastError == NOTHING) {
            throw new NoSuchElementException("no program was malformed");
        }
        return lastError;
    }

    /** Returns the index of the last command that failed. */
    public int failedCommand() throws NoSuchElementException {
        if (lastFailure == NOTHING) {
            throw new NoSuchElementException("no command failed");
        }
        return lastFailure;
    }

    // ---- undo and snapshots

    /** Undoes the last modification and returns the number of those that can still be undone. */
    public int undo() throws IllegalStateException {
        if (history.size == 0) {
            throw new IllegalStateException("nothing can be undone");
        }
        history.popInto(race);
        return history.size;
    }

    /** Saves the state as a snapshot and returns the clock. */
    public int save() {
        snapshot.copyFrom(race);
        snapshotTaken = true;
        return race.secondsPassed;
    }

    /** Restores the snapshot, which is kept, and returns the clock. */
    public int restore() throws IllegalStateException {
        if (!snapshotTaken) {
            throw new IllegalStateException("there is no snapshot");
        }
        race.copyFrom(snapshot);
        history.size = 0;
        return race.secondsPassed;
    }

    // ---- helpers of the face

    private static void raise(Fault fault) {
        if (fault == Fault.INDEX) {
            throw new IndexOutOfBoundsException("no such team or leg");
        }
        if (fault == Fault.ARGUMENT) {
            throw new IllegalArgumentException("an argument is out of range");
        }
        if (fault == Fault.STATE) {
            throw new IllegalStateException("not possible in this state");
        }
        if (fault == Fault.REFUSED) {
            throw new UnsupportedOperationException("the pass is refused");
        }
    }

    private Team teamWith(int number) {
        Team team = race.find(number);
        if (team == null) {
            throw new IndexOutOfBoundsException("no such team");
        }
        return team;
    }

    private Team teamWithLeg(int number, int leg) {
        Team team = teamWith(number);
        if (!isLeg(leg)) {
            throw new IndexOutOfBoundsException("no such leg");
        }
        return team;
    }

    private Team finishedTeamWith(int number) {
        Team team = teamWith(number);
        if (team.stage != Stage.FINISHED) {
            throw new NoSuchElementException("the team has not finished");
        }
        return team;
    }

    private int speedForReach(int team, int leg, int seconds) {
        Team asked = teamWithLeg(team, leg);
        if (seconds < 0 || seconds > MAX_REACH) {
            throw new IllegalArgumentException("the number of seconds is out of range");
        }
        return asked.speedOn(leg);
    }

    private Fault faultOfPassing(int number) {
        Team team = race.find(number);
        if (team == null) {
            return Fault.INDEX;
        }
        if (team.stage != Stage.RUNNING) {
            return Fault.STATE;
        }
        int reason = team.reasonToRefuse(race.legLength);
        if (reason == NO_REFUSAL) {
            return Fault.NONE;
        }
        lastReason = reason;
        lastRefusedTeam = number;
        return Fault.REFUSED;
    }

    private void appendStage(Team team) {
        if (team.stage == Stage.RUNNING) {
            banner.append('r').append(team.leg);
        } else if (team.stage == Stage.FINISHED) {
            banner.append('f').append(team.result());
        } else if (team.stage == Stage.WITHDRAWN) {
            banner.append('w');
        } else {
            banner.append('-');
        }
    }

    /** Performs the commands of a well-formed program; returns the index of the one that fails, or NOTHING. */
    private int performAll() {
        before.copyFrom(race);
        program.rewind();
        for (int index = 0; index < program.commands; index++) {
            boolean read = program.readNext();
            int first = at(program.arguments, 0);
            int second = at(program.arguments, 1);
            int third = at(program.arguments, 2);
            if (!read || faultOf(program.verb, first, second, third) != Fault.NONE) {
                race.copyFrom(before);
                return index;
            }
            apply(program.verb, first, second, third);
        }
        history.push(before);
        return NOTHING;
    }

    private Fault faultOf(Verb verb, int first, int second, int third) {
        switch (verb) {
            case START:
                return race.faultOfStarting();
            case RUN:
                return race.faultOfRunning(first);
            case PASS:
                return faultOfPassing(first);
            case DROP:
                return race.faultOfDropping(first, second);
            case QUIT:
                return race.faultOfWithdrawing(first);
            case PROTEST:
                return race.faultOfProtesting(first, second, third);
            case SPEED:
                return race.faultOfSpeed(first, second, third);
            default:
                return race.faultOfDrawing(first);
        }
    }

    private void apply(Verb verb, int first, int second, int third) {
        switch (verb) {
            case START:
                race.begin();
                break;
            case RUN:
                race.letSecondsPass(first);
                break;
            case PASS:
                race.handOver(teamWith(first));
                break;
            case DROP:
                race.dropQuill(teamWith(first), second);
                break;
            case QUIT:
                teamWith(first).stage = Stage.WITHDRAWN;
                break;
            case PROTEST:
                race.judge(teamWith(first), teamWith(second), third);
                break;
            case SPEED:
                teamWith(first).changeSpeed(second, third);
                break;
            default:
                race.shuffleLanes(first);
                break;
        }
    }

    // ---- rules that need no state

    private static boolean isLeg(int leg) {
        return leg >= 0 && leg < LEGS;
    }

    private static boolean isKind(int kind) {
        return kind == LATE || kind == DROP;
    }

    /** The decimetres that a runner covers in a second, counted from 0. */
    private static int pace(int speed, int second) {
        return Math.max(LEAST_PACE, speed - second / TIRING);
    }

    private static int at(int[] row, int index) {
        return index >= 0 && index < row.length ? row[index] : 0;
    }

    private static void put(int[] row, int index, int value) {
        if (index >= 0 && index < row.length) {
            row[index] = value;
        }
    }

    private static void copyRow(int[] from, int[] to) {
        for (int index = 0; index < to.length; index++) {
            to[index] = at(from, index);
        }
    }

    /** What is wrong with a call, in the terms of the exceptions. */
    private enum Fault { NONE, INDEX, ARGUMENT, STATE, REFUSED }

    /** Where a team is between being absent and having ended its race. */
    private enum Stage {
        ABSENT(3), READY(1), RUNNING(1), FINISHED(0), WITHDRAWN(2);

        final int rankGroup;

        Stage(int rankGroup) {
            this.rankGroup = rankGroup;
        }
    }

    /** The commands; in a pattern D stands for a digit, N for a number and K for a kind of foul. */
    private enum Verb {
        START("start"), RUN("run N"), PASS("pass D"), DROP("drop D N"), QUIT("quit D"),
        PROTEST("protest DDK"), SPEED("speed D D N"), DRAW("draw N");

        final String pattern;

        Verb(String pattern) {
            this.pattern = pattern;
        }
    }

    /** A team with its runners. */
    private static final class Team {
        final int number;
        final int[] speeds;
        final int[] splits;
        Stage stage;
        int lane;
        int position;
        int leg;
        int secondsRun;
        int standing;
        int penalty;
        int lastPass;
        int time;
        boolean lateFoul;
        boolean dropFoul;

        Team(int number) {
            this.number = number;
            speeds = new int[LEGS];
            splits = new int[LEGS];
            for (int index = 0; index < speeds.length; index++) {
                speeds[index] = FIRST_SPEED;
            }
            stage = Stage.ABSENT;
            lane = number + 1;
        }

        void copyFrom(Team other) {
            copyRow(other.speeds, speeds);
            copyRow(other.splits, splits);
            stage = other.stage;
            lane = other.lane;
            position = other.position;
            leg = other.leg;
            secondsRun = other.secondsRun;
            standing = other.standing;
            penalty = other.penalty;
            lastPass = other.lastPass;
            time = other.time;
            lateFoul = other.lateFoul;
            dropFoul = other.dropFoul;
        }

        int speedOn(int someLeg) {
            return at(speeds, someLeg);
        }

        int changeSpeed(int someLeg, int speed) {
            int previous = at(speeds, someLeg);
            put(speeds, someLeg, speed);
            return previous;
        }

        int legEnd(int legLength) {
            return (leg + 1) * legLength;
        }

        boolean inZone(int legLength) {
            return leg < FINAL_LEG
                    && position >= legEnd(legLength) - ZONE
                    && position <= legEnd(legLength) + ZONE;
        }

        int reasonToRefuse(int legLength) {
            if (standing > 0) {
                return DROPPED;
            }
            if (leg >= FINAL_LEG) {
                return LAST_LEG;
            }
            return position < legEnd(legLength) - ZONE ? TOO_EARLY : NO_REFUSAL;
        }

        /** Lets one second pass; returns whether the team finishes in it. */
        boolean moveOneSecond(int legLength, int clock) {
            if (standing > 0) {
                standing--;
                return false;
            }
            runOneSecond(legLength);
            if (leg < FINAL_LEG || position < LEGS * legLength) {
                return false;
            }
            stage = Stage.FINISHED;
            time = clock;
            endLeg(clock);
            return true;
        }

        private void runOneSecond(int legLength) {
            int farthest = legEnd(legLength) + FARTHEST;
            int reached = position + pace(at(speeds, leg), secondsRun);
            if (leg < FINAL_LEG && position >= farthest) {
                return;
            }
            position = leg < FINAL_LEG ? Math.min(farthest, reached) : reached;
            secondsRun++;
        }

        /** Notes the split time of the leg, and returns it. */
        int endLeg(int clock) {
            int split = clock - lastPass;
            put(splits, leg, split);
            lastPass = clock;
            return split;
        }

        boolean hasEnded(int someLeg) {
            return someLeg < leg || stage == Stage.FINISHED;
        }

        int secondsUntilZone(int legLength) {
            int zoneBegin = legEnd(legLength) - ZONE;
            if (position >= zoneBegin) {
                return 0;
            }
            int place = position;
            int seconds = 0;
            while (place < zoneBegin && seconds < MANY) {
                place += pace(at(speeds, leg), secondsRun + seconds);
                seconds++;
            }
            return standing + seconds;
        }

        boolean committed(int kind) {
            return kind == LATE ? lateFoul : dropFoul;
        }

        void removeFoul(int kind) {
            if (kind == LATE) {
                lateFoul = false;
            } else {
                dropFoul = false;
            }
        }

        int result() {
            return time + penalty;
        }

        boolean isAheadOf(Team other) {
            if (stage.rankGroup != other.stage.rankGroup) {
                return stage.rankGroup < other.stage.rankGroup;
            }
            int lead = stage == Stage.FINISHED ? other.result() - result() : position - other.position;
            return lead != 0 ? lead > 0 : lane < other.lane;
        }
    }

    /** All that undo and restore bring back. */
    private static final class Race {
        final Team[] teams;
        boolean begun;
        int secondsPassed;
        int legLength;

        Race() {
            teams = new Team[MAX_TEAMS];
            for (int index = 0; index < teams.length; index++) {
                teams[index] = new Team(index);
            }
            legLength = FIRST_LENGTH;
        }

        void copyFrom(Race other) {
            for (int index = 0; index < teams.length && index < other.teams.length; index++) {
                teams[index].copyFrom(other.teams[index]);
            }
            begun = other.begun;
            secondsPassed = other.secondsPassed;
            legLength = other.legLength;
        }

        /** Returns the team with this number, or null if there is none. */
        Team find(int number) {
            if (number < 0 || number >= teams.length) {
                return null;
            }
            Team team = teams[number];
            return team.stage == Stage.ABSENT ? null : team;
        }

        int countEntered() {
            return teams.length - countIn(Stage.ABSENT);
        }

        int countRunning() {
            return countIn(Stage.RUNNING);
        }

        int countFinished() {
            return countIn(Stage.FINISHED);
        }

        private int countIn(Stage stage) {
            int count = 0;
            for (Team team : teams) {
                if (team.stage == stage) {
                    count++;
                }
            }
            return count;
        }

        int sumOfTimes() {
            int sum = 0;
            for (Team team : teams) {
                if (team.stage == Stage.FINISHED) {
                    sum += team.time;
                }
            }
            return sum;
        }

        int numberInLane(int lane) {
            for (Team team : teams) {
                if (team.stage != Stage.ABSENT && team.lane == lane) {
                    return team.number;
                }
            }
            return NOTHING;
        }

        int numberAtRank(int rank) {
            for (Team team : teams) {
                if (team.stage != Stage.ABSENT && countAhead(team) == rank) {
                    return team.number;
                }
            }
            return NOTHING;
        }

        int countAhead(Team team) {
            int ahead = 0;
            for (Team other : teams) {
                if (other.stage != Stage.ABSENT && other.isAheadOf(team)) {
                    ahead++;
                }
            }
            return ahead;
        }

        Fault faultOfEntering() {
            return begun || countEntered() >= teams.length ? Fault.STATE : Fault.NONE;
        }

        Fault faultOfSpeed(int number, int leg, int speed) {
            if (find(number) == null || !isLeg(leg)) {
                return Fault.INDEX;
            }
            if (speed < MIN_SPEED || speed > MAX_SPEED) {
                return Fault.ARGUMENT;
            }
            return begun ? Fault.STATE : Fault.NONE;
        }

        Fault faultOfLength(int decimetres) {
            if (decimetres < MIN_LENGTH || decimetres > MAX_LENGTH) {
                return Fault.ARGUMENT;
            }
            return begun ? Fault.STATE : Fault.NONE;
        }

        Fault faultOfDrawing(int seed) {
            if (seed < 0 || seed > MAX_SEED) {
                return Fault.ARGUMENT;
            }
            return faultOfStarting();
        }

        Fault faultOfStarting() {
            return begun || countEntered() == 0 ? Fault.STATE : Fault.NONE;
        }

        Fault faultOfRunning(int seconds) {
            if (seconds < 1 || seconds > MAX_RUN) {
                return Fault.ARGUMENT;
            }
            return begun ? Fault.NONE : Fault.STATE;
        }

        Fault faultOfDropping(int number, int seconds) {
            if (find(number) == null) {
                return Fault.INDEX;
            }
            if (seconds < 1 || seconds > MAX_DROP) {
                return Fault.ARGUMENT;
            }
            return faultOfWithdrawing(number);
        }

        Fault faultOfWithdrawing(int number) {
            Team team = find(number);
            if (team == null) {
                return Fault.INDEX;
            }
            return team.stage == Stage.RUNNING ? Fault.NONE : Fault.STATE;
        }

        Fault faultOfProtesting(int by, int against, int kind) {
            if (find(by) == null || find(against) == null) {
                return Fault.INDEX;
            }
            if (by == against || !isKind(kind)) {
                return Fault.ARGUMENT;
            }
            return begun ? Fault.NONE : Fault.STATE;
        }

        /** Adds a team and returns its number, or NOTHING if all have been added. */
        int enterTeam() {
            for (Team team : teams) {
                if (team.stage == Stage.ABSENT) {
                    team.stage = Stage.READY;
                    return team.number;
                }
            }
            return NOTHING;
        }

        void shuffleLanes(int seed) {
            int lanes = countEntered();
            int left = lanes;
            int draw = seed;
            for (Team team : teams) {
                if (left > 0) {
                    draw = (5 * draw + 3) % 1000;
                    team.lane = freeLane(lanes, team.number, draw % left);
                    left--;
                }
            }
        }

        /** The lane with this index among those that no team with a lower number has. */
        private int freeLane(int lanes, int number, int index) {
            int skipped = 0;
            for (int lane = 1; lane <= lanes; lane++) {
                if (!isTaken(lane, number)) {
                    if (skipped == index) {
                        return lane;
                    }
                    skipped++;
                }
            }
            return lanes;
        }

        private boolean isTaken(int lane, int number) {
            for (Team team : teams) {
                if (team.number < number && team.lane == lane) {
                    return true;
                }
            }
            return false;
        }

        void begin() {
            begun = true;
            for (Team team : teams) {
                if (team.stage == Stage.READY) {
                    team.stage = Stage.RUNNING;
                }
            }
        }

        int letSecondsPass(int seconds) {
            int finishing = 0;
            for (int second = 0; second < seconds; second++) {
                secondsPassed++;
                for (Team team : teams) {
                    if (team.stage == Stage.RUNNING && team.moveOneSecond(legLength, secondsPassed)) {
                        finishing++;
                    }
                }
            }
            return finishing;
        }

        int handOver(Team team) {
            if (team.position > team.legEnd(legLength) + ZONE) {
                team.lateFoul = true;
            }
            int split = team.endLeg(secondsPassed);
            team.leg++;
            team.secondsRun = 0;
            return split;
        }

        int dropQuill(Team team, int seconds) {
            if (team.inZone(legLength)) {
                team.dropFoul = true;
            }
            team.standing += seconds;
            return team.standing;
        }

        boolean judge(Team by, Team against, int kind) {
            if (against.committed(kind)) {
                against.removeFoul(kind);
                against.penalty += UPHELD_PENALTY;
                return true;
            }
            by.penalty += REJECTED_PENALTY;
            return false;
        }
    }

    /** The races as they were ahead of the last modifications, in rows that are used again and again. */
    private static final class History {
        final Race[] rows;
        int newest;
        int size;

        History() {
            rows = new Race[UNDO_DEPTH];
            for (int index = 0; index < rows.length; index++) {
                rows[index] = new Race();
            }
        }

        void push(Race race) {
            newest++;
            if (newest < 0 || newest >= rows.length) {
                newest = 0;
            }
            rows[newest].copyFrom(race);
            size = Math.min(size + 1, rows.length);
        }

        void popInto(Race race) {
            if (size > 0 && newest >= 0 && newest < rows.length) {
                race.copyFrom(rows[newest]);
                newest = newest > 0 ? newest - 1 : rows.length - 1;
                size--;
            }
        }
    }

    /** The characters that have been typed, and a reader of the commands in them. */
    private static final class Program {
        private static final Verb[] VERBS = Verb.values();

        final StringBuilder text;
        final int[] arguments;
        int argumentCount;
        int end;
        int commands;
        Verb verb;

        Program() {
            text = new StringBuilder();
            arguments = new int[3];
            verb = Verb.START;
        }

        /** Counts the commands; returns the error position, or NOTHING if the text is a program. */
        int findError() {
            rewind();
            commands = 0;
            while (commands <= text.length()) {
                if (!readNext()) {
                    return end;
                }
                commands++;
                if (end >= text.length()) {
                    return NOTHING;
                }
            }
            return end;
        }

        void rewind() {
            end = 0;
        }

        /** Reads the next command; if there is none, end is the index where no program goes on. */
        boolean readNext() {
            if (end > 0 && !readCharacter(';')) {
                return false;
            }
            int begin = end;
            int furthest = begin;
            for (Verb candidate : VERBS) {
                if (readPattern(candidate.pattern, begin)) {
                    verb = candidate;
                    return true;
                }
                furthest = Math.max(furthest, end);
            }
            end = furthest;
            return false;
        }

        private boolean readPattern(String pattern, int begin) {
            end = begin;
            argumentCount = 0;
            for (int index = 0; index < pattern.length(); index++) {
                if (!readSign(pattern.charAt(index))) {
                    return false;
                }
            }
            return true;
        }

        private boolean readSign(char sign) {
            if (sign == 'D') {
                return readDigits(1);
            }
            if (sign == 'N') {
                return readDigits(3);
            }
            if (sign == 'K') {
                return readKind();
            }
            return readCharacter(sign);
        }

        private boolean readCharacter(char character) {
            if (end < text.length() && text.charAt(end) == character) {
                end++;
                return true;
            }
            return false;
        }

        private boolean readDigits(int most) {
            int begin = end;
            int value = 0;
            while (end - begin < most && end < text.length() && isDigit(text.charAt(end))) {
                value = 10 * value + (text.charAt(end) - '0');
                end++;
            }
            addArgument(value);
            return end > begin;
        }

        private static boolean isDigit(char character) {
            return character >= '0' && character <= '9';
        }

        private boolean readKind() {
            if (readCharacter('l')) {
                addArgument(LATE);
                return true;
            }
            addArgument(DROP);
            return readCharacter('d');
        }

        private void addArgument(int value) {
            if (argumentCount >= 0 && argumentCount < arguments.length) {
                arguments[argumentCount] = value;
                argumentCount++;
            }
        }
    }
}
