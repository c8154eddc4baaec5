import java.util.NoSuchElementException;

/** Promises 18 to 34. */
final class TeamQuestionsTest {
    private TeamQuestionsTest() {
    }

    static void promise18LaneOf() {
        QuillRelay relay = Races.prepared(2);
        Check.same(1, relay.laneOf(0));
        Check.same(2, relay.laneOf(1));
        relay.drawLanes(1);
        // 8 % 2, then 43 % 1
        Check.same(1, relay.laneOf(0));
        relay.drawLanes(2);
        // 13 % 2
        Check.same(2, relay.laneOf(0));
        Check.same(1, relay.laneOf(1));
    }

    static void promise19TeamInLane() {
        QuillRelay relay = Races.prepared(2);
        Check.same(0, relay.teamInLane(1));
        Check.same(1, relay.teamInLane(2));
        relay.drawLanes(2);
        Check.same(1, relay.teamInLane(1));
        Check.same(0, relay.teamInLane(2));
        relay.start();
        relay.withdraw(0);
        Check.same(0, relay.teamInLane(2));
        Check.fails(NoSuchElementException.class, () -> new QuillRelay().teamInLane(1));
    }

    static void promise20SpeedOf() {
        QuillRelay relay = Races.prepared(2);
        relay.setSpeed(1, 2, 77);
        Check.same(77, relay.speedOf(1, 2));
        Check.same(60, relay.speedOf(0, 0));
        Check.same(60, relay.speedOf(1, 3));
    }

    static void promise21PositionOf() {
        QuillRelay relay = Races.prepared(2);
        relay.setSpeed(1, 0, 70);
        Check.same(0, relay.positionOf(0));
        relay.start();
        relay.run(3);
        Check.same(180, relay.positionOf(0));
        Check.same(210, relay.positionOf(1));
    }

    static void promise22LegOf() {
        QuillRelay relay = Races.startedShort(2);
        Check.same(0, relay.legOf(0));
        relay.run(6);
        relay.pass(1);
        Check.same(0, relay.legOf(0));
        Check.same(1, relay.legOf(1));
        Check.same(3, Races.finishedShort().legOf(0));
    }

    static void promise23IsRunning() {
        QuillRelay relay = Races.prepared(2);
        Check.same(false, relay.isRunning(0));
        relay.start();
        Check.same(true, relay.isRunning(0));
        relay.drop(0, 3);
        Check.same(true, relay.isRunning(0));
        relay.withdraw(0);
        Check.same(false, relay.isRunning(0));
        Check.same(true, relay.isRunning(1));
        Check.same(false, Races.finishedShort().isRunning(0));
    }

    static void promise24IsInZoneOfItsLeg() {
        QuillRelay relay = Races.startedShort(2);
        Check.same(false, relay.isInZone(0));
        relay.run(6);
        Check.same(true, relay.isInZone(0));
        relay.withdraw(1);
        Check.same(true, relay.isInZone(1));
        relay.pass(0);
        Check.same(false, relay.isInZone(0));
        relay.run(8);
        Check.same(true, relay.isInZone(0));
    }

    static void promise24IsInZoneIsFalseOnTheLastLeg() {
        QuillRelay relay = Races.startedShort(1);
        Races.runToLastLeg(relay);
        for (int second = 0; second < 12; second++) {
            Check.same(false, relay.isInZone(0));
            relay.run(1);
        }
    }

    static void promise25StandingOf() {
        QuillRelay relay = Races.started(2);
        Check.same(0, relay.standingOf(0));
        relay.drop(0, 4);
        Check.same(4, relay.standingOf(0));
        Check.same(0, relay.standingOf(1));
        relay.run(3);
        Check.same(1, relay.standingOf(0));
        relay.run(3);
        Check.same(0, relay.standingOf(0));
        Check.same(120, relay.positionOf(0));
    }

    static void promise25StandingBehindTheLegIsNoDroppedQuill() {
        QuillRelay relay = Races.started(1);
        relay.run(100);
        Check.same(0, relay.standingOf(0));
    }

    static void promise26PenaltyOf() {
        QuillRelay relay = Races.startedShort(2);
        Check.same(0, relay.penaltyOf(1));
        relay.protest(1, 0, QuillRelay.DROP);
        Check.same(5, relay.penaltyOf(1));
        relay.run(6);
        relay.drop(0, 1);
        Check.same(0, relay.penaltyOf(0));
        relay.protest(1, 0, QuillRelay.DROP);
        Check.same(10, relay.penaltyOf(0));
        Check.same(5, relay.penaltyOf(1));
    }

    static void promise27HasFoul() {
        QuillRelay relay = Races.startedShort(2);
        Check.same(false, relay.hasFoul(0, QuillRelay.LATE));
        relay.run(200);
        relay.pass(0);
        Check.same(true, relay.hasFoul(0, QuillRelay.LATE));
        Check.same(false, relay.hasFoul(0, QuillRelay.DROP));
        Check.same(false, relay.hasFoul(1, QuillRelay.LATE));
        relay.drop(0, 1);
        Check.same(true, relay.hasFoul(0, QuillRelay.DROP));
    }

    static void promise28SplitOf() {
        QuillRelay relay = Races.startedShort(2);
        Check.fails(NoSuchElementException.class, () -> relay.splitOf(0, 0));
        Races.runToLastLeg(relay);
        relay.drop(1, 1);
        relay.run(11);
        int[] due = {6, 8, 8, 10};
        for (int leg = 0; leg < 4; leg++) {
            Check.same(due[leg], relay.splitOf(0, leg));
        }
        Check.same(11, relay.splitOf(1, 3));
    }

    static void promise28SplitOfLegThatHasNotEnded() {
        QuillRelay relay = Races.startedShort(1);
        relay.run(6);
        relay.pass(0);
        Check.same(6, relay.splitOf(0, 0));
        for (int leg = 1; leg < 4; leg++) {
            int open = leg;
            Check.fails(NoSuchElementException.class, () -> relay.splitOf(0, open));
        }
        relay.withdraw(0);
        Check.same(6, relay.splitOf(0, 0));
        Check.fails(NoSuchElementException.class, () -> relay.splitOf(0, 1));
        QuillRelay last = Races.startedShort(1);
        Races.runToLastLeg(last);
        Check.fails(NoSuchElementException.class, () -> last.splitOf(0, 3));
        last.withdraw(0);
        Check.fails(NoSuchElementException.class, () -> last.splitOf(0, 3));
    }

    static void promise29SplitSum() {
        QuillRelay relay = Races.startedShort(2);
        Check.same(0, relay.splitSum(0));
        relay.run(5);
        Check.same(0, relay.splitSum(0));
        relay.run(1);
        relay.pass(0);
        relay.run(9);
        Check.same(6, relay.splitSum(0));
        relay.pass(0);
        Check.same(15, relay.splitSum(0));
        Check.same(0, relay.splitSum(1));
        Check.same(32, Races.finishedShort().splitSum(0));
    }

    static void promise30TimeOf() {
        QuillRelay relay = Races.startedShort(2);
        Races.runToLastLeg(relay);
        Check.fails(NoSuchElementException.class, () -> relay.timeOf(0));
        relay.drop(1, 2);
        relay.run(50);
        Check.same(32, relay.timeOf(0));
        Check.same(34, relay.timeOf(1));
    }

    static void promise30TimeIsWithoutPenaltyAndNotOfWithdrawnTeams() {
        QuillRelay relay = Races.startedShort(2);
        Races.runToLastLeg(relay);
        relay.withdraw(1);
        relay.run(10);
        relay.protest(0, 1, QuillRelay.LATE);
        Check.same(32, relay.timeOf(0));
        Check.fails(NoSuchElementException.class, () -> relay.timeOf(1));
        Check.fails(NoSuchElementException.class, () -> Races.prepared(1).timeOf(0));
    }

    static void promise31ResultOf() {
        QuillRelay relay = Races.startedShort(2);
        relay.protest(0, 1, QuillRelay.LATE);
        Races.runToLastLeg(relay);
        Check.fails(NoSuchElementException.class, () -> relay.resultOf(0));
        relay.run(10);
        Check.same(37, relay.resultOf(0));
        Check.same(32, relay.resultOf(1));
        relay.protest(1, 0, QuillRelay.LATE);
        Check.same(37, relay.resultOf(1));
        Check.fails(NoSuchElementException.class, () -> Races.started(1).resultOf(0));
    }

    /** Teams 0 and 1 finish, 2 and 3 run, 4 and 5 withdraw; the greater number is in front each time. */
    private static QuillRelay mixedRace() {
        QuillRelay relay = Races.preparedShort(6);
        relay.setSpeed(3, 3, 60);
        relay.setSpeed(5, 3, 60);
        relay.start();
        Races.runToLastLeg(relay);
        relay.run(2);
        relay.withdraw(4);
        relay.withdraw(5);
        relay.drop(2, 20);
        relay.drop(3, 20);
        relay.run(8);
        relay.protest(0, 1, QuillRelay.LATE);
        return relay;
    }

    private static String ranking(QuillRelay relay) {
        StringBuilder text = new StringBuilder();
        for (int rank = 0; rank < relay.teamCount(); rank++) {
            int team = relay.teamAtRank(rank);
            text.append(team);
            Check.same(rank, relay.rankOf(team));
        }
        return text.toString();
    }

    static void promise32TeamAtRank() {
        QuillRelay relay = mixedRace();
        Check.same("103254", ranking(relay));
        Check.fails(NoSuchElementException.class, () -> new QuillRelay().teamAtRank(0));
        Check.fails(NoSuchElementException.class, () -> Races.prepared(2).teamAtRank(2));
    }

    static void promise32ResultsDecideNotTimes() {
        QuillRelay relay = Races.startedShort(2);
        Races.runToLastLeg(relay);
        relay.drop(1, 4);
        relay.run(20);
        Check.same("01", ranking(relay));
        relay.protest(0, 1, QuillRelay.LATE);
        Check.same("10", ranking(relay));
    }

    static void promise33RankOf() {
        QuillRelay relay = mixedRace();
        int[] due = {1, 0, 3, 2, 5, 4};
        for (int team = 0; team < 6; team++) {
            Check.same(due[team], relay.rankOf(team));
        }
    }

    static void promise33EqualTeamsAreRankedByLanes() {
        QuillRelay relay = Races.preparedShort(6);
        Check.same("012345", ranking(relay));
        relay.drawLanes(999);
        Check.same("230415", ranking(relay));
        relay.start();
        relay.run(3);
        Check.same("230415", ranking(relay));
        Races.runToLastLeg(relay);
        relay.withdraw(2);
        relay.withdraw(3);
        Check.same("041523", ranking(relay));
        relay.run(20);
        Check.same("041523", ranking(relay));
    }

    static void promise33FinishedTeamIsAheadOfFartherOnes() {
        QuillRelay relay = Races.preparedShort(3);
        relay.setSpeed(2, 3, 99);
        relay.start();
        Races.runToLastLeg(relay);
        relay.drop(0, 20);
        relay.run(5);
        relay.withdraw(2);
        relay.run(5);
        // team 1 has finished with 1600, team 0 runs with 1100, team 2 has withdrawn with 1595
        Check.same("102", ranking(relay));
    }

    static void promise34MeanTime() {
        QuillRelay relay = Races.startedShort(3);
        Check.fails(ArithmeticException.class, () -> relay.meanTime());
        Races.runToLastLeg(relay);
        relay.drop(1, 1);
        relay.withdraw(2);
        Check.fails(ArithmeticException.class, () -> relay.meanTime());
        relay.run(10);
        Check.same(32.0, relay.meanTime());
        relay.run(1);
        Check.same(32.5, relay.meanTime());
        relay.protest(0, 1, QuillRelay.LATE);
        Check.same(32.5, relay.meanTime());
        Check.fails(ArithmeticException.class, () -> new QuillRelay().meanTime());
    }
}
