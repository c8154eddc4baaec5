import java.util.NoSuchElementException;

/** Objects in the states that the tests begin with, and longer questions about them. */
final class Races {
    private Races() {
    }

    static QuillRelay prepared(int teams) {
        QuillRelay relay = new QuillRelay();
        for (int team = 0; team < teams; team++) {
            relay.addTeam();
        }
        return relay;
    }

    static QuillRelay started(int teams) {
        QuillRelay relay = prepared(teams);
        relay.start();
        return relay;
    }

    /** Legs of 400 decimetres and runners of speed 50: zones begin after 6, 8 and 8 seconds, the end comes after 10 more. */
    static QuillRelay preparedShort(int teams) {
        QuillRelay relay = prepared(teams);
        relay.setLength(400);
        for (int team = 0; team < teams; team++) {
            setSpeeds(relay, team, 50);
        }
        return relay;
    }

    static QuillRelay startedShort(int teams) {
        QuillRelay relay = preparedShort(teams);
        relay.start();
        return relay;
    }

    static void setSpeeds(QuillRelay relay, int team, int speed) {
        for (int leg = 0; leg < 4; leg++) {
            relay.setSpeed(team, leg, speed);
        }
    }

    /** A started race of team 0 alone: each runner but the last one of the rows runs so many seconds at its speed and passes. */
    static QuillRelay ranBy(int length, int[]... speedsAndSeconds) {
        QuillRelay relay = prepared(1);
        relay.setLength(length);
        for (int leg = 0; leg < speedsAndSeconds.length; leg++) {
            relay.setSpeed(0, leg, speedsAndSeconds[leg][0]);
        }
        relay.start();
        for (int leg = 0; leg < speedsAndSeconds.length; leg++) {
            if (leg > 0) {
                relay.pass(0);
            }
            relay.run(speedsAndSeconds[leg][1]);
        }
        return relay;
    }

    /** Brings all teams of a short race to the last leg, at 1100 decimetres, at the clock 22. */
    static void runToLastLeg(QuillRelay relay) {
        int[] seconds = {6, 8, 8};
        for (int wait : seconds) {
            relay.run(wait);
            for (int team = 0; team < relay.teamCount(); team++) {
                relay.pass(team);
            }
        }
    }

    /** A short race with one team that has finished at the clock 32. */
    static QuillRelay finishedShort() {
        QuillRelay relay = startedShort(1);
        runToLastLeg(relay);
        relay.run(10);
        return relay;
    }

    static void type(QuillRelay relay, String text) {
        for (char character : text.toCharArray()) {
            relay.type(character);
        }
    }

    static int execute(QuillRelay relay, String text) {
        type(relay, text);
        return relay.execute();
    }

    static String banner(QuillRelay relay, int team) {
        int length = relay.writeBanner(team);
        return bannerOfLength(relay, length);
    }

    static String bannerOfLength(QuillRelay relay, int length) {
        StringBuilder text = new StringBuilder();
        for (int index = 0; index < length; index++) {
            text.append(relay.bannerAt(index));
        }
        return text.toString();
    }

    /** All that can be asked about the state that undo and restore bring back. */
    static String state(QuillRelay relay) {
        StringBuilder text = new StringBuilder();
        text.append(relay.teamCount()).append(' ').append(relay.runningCount()).append(' ')
                .append(relay.isStarted()).append(' ').append(relay.isFinished()).append(' ')
                .append(relay.clock()).append(' ').append(relay.length());
        for (int team = 0; team < relay.teamCount(); team++) {
            text.append('\n').append(stateOfTeam(relay, team));
        }
        return text.toString();
    }

    /** A part of the state that takes so few calls that it can be asked for after each of nine. */
    static String shortState(QuillRelay relay) {
        StringBuilder text = new StringBuilder();
        text.append(relay.isStarted()).append(' ').append(relay.clock()).append(' ').append(relay.length());
        for (int team = 0; team < relay.teamCount(); team++) {
            text.append(' ').append(relay.laneOf(team)).append(' ').append(relay.speedOf(team, 3))
                    .append(' ').append(relay.positionOf(team)).append(' ').append(relay.standingOf(team))
                    .append(' ').append(relay.penaltyOf(team)).append(' ').append(relay.isRunning(team));
        }
        return text.toString();
    }

    private static String stateOfTeam(QuillRelay relay, int team) {
        StringBuilder text = new StringBuilder();
        text.append(relay.laneOf(team)).append(' ').append(relay.positionOf(team)).append(' ')
                .append(relay.legOf(team)).append(' ').append(relay.isRunning(team)).append(' ')
                .append(relay.standingOf(team)).append(' ').append(relay.penaltyOf(team)).append(' ')
                .append(relay.hasFoul(team, QuillRelay.LATE)).append(' ').append(relay.hasFoul(team, QuillRelay.DROP))
                .append(' ').append(relay.rankOf(team)).append(' ').append(relay.splitSum(team));
        for (int leg = 0; leg < 4; leg++) {
            text.append(' ').append(relay.speedOf(team, leg)).append('/').append(split(relay, team, leg));
        }
        return text.append(' ').append(time(relay, team)).toString();
    }

    private static String split(QuillRelay relay, int team, int leg) {
        try {
            return "" + relay.splitOf(team, leg);
        } catch (NoSuchElementException exception) {
            return "-";
        }
    }

    private static String time(QuillRelay relay, int team) {
        try {
            return "" + relay.timeOf(team);
        } catch (NoSuchElementException exception) {
            return "-";
        }
    }
}
