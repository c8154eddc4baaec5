import java.util.function.BiFunction;

/** The boundary cases that the document names for promises 12 to 34. */
final class QuestionEdgesTest {
    private QuestionEdgesTest() {
    }

    /** A question about a team or a leg, with its number as the second argument. */
    private interface Question extends BiFunction<QuillRelay, Integer, Object> {
    }

    /** "if there is no such team": with none, with 3 and with 6 teams, the last number that is one and the first that is not. */
    private static void teamNumbers(Question question) {
        Refused.with(Refused.INDEX, QuillRelay::new, relay -> question.apply(relay, 0));
        Refused.with(Refused.INDEX, Worn::prepared, relay -> question.apply(relay, -1));
        Refused.with(Refused.INDEX, Worn::started, relay -> question.apply(relay, 3));
        Refused.with(Refused.INDEX, Worn::finished, relay -> question.apply(relay, 3));
        QuillRelay full = Races.started(6);
        accepts(question, full, 0, 5);
        Check.fails(Refused.INDEX, () -> question.apply(full, -1));
        Check.fails(Refused.INDEX, () -> question.apply(full, 6));
        for (int wrong : Refused.EXTREMES) {
            Check.fails(Refused.INDEX, () -> question.apply(full, wrong));
        }
    }

    /** "the leg, 0 to 3" */
    private static void legNumbers(Question question) {
        Refused.with(Refused.INDEX, Worn::started, relay -> question.apply(relay, -1));
        Refused.with(Refused.INDEX, Worn::finished, relay -> question.apply(relay, 4));
        QuillRelay relay = Worn.started();
        accepts(question, relay, 0, 3);
        for (int wrong : Refused.EXTREMES) {
            Check.fails(Refused.INDEX, () -> question.apply(relay, wrong));
        }
    }

    private static void accepts(Question question, QuillRelay relay, int least, int greatest) {
        for (int number = least; number <= greatest; number++) {
            int asked = number;
            String outcome = Check.outcome(() -> question.apply(relay, asked));
            Check.same(false, outcome.equals("throws IndexOutOfBoundsException"));
        }
    }

    static void promise12NoTeamsAndSixTeams() {
        QuillRelay relay = new QuillRelay();
        for (int teams = 0; teams <= 6; teams++) {
            Check.same(teams, relay.teamCount());
            Check.outcome(() -> relay.addTeam());
        }
        Check.same(6, relay.teamCount());
        relay.undo();
        Check.same(5, relay.teamCount());
    }

    static void promise12WithdrawnAndFinishedTeamsCount() {
        Check.same(3, Worn.finished().teamCount());
    }

    /** "When the race starts, all teams are running.", and none before; "A team stops running when it finishes or withdraws." */
    static void promise13NoneBeforeTheStartAllAfterIt() {
        QuillRelay relay = Races.prepared(6);
        Check.same(0, relay.runningCount());
        relay.start();
        for (int team = 0; team < 6; team++) {
            Check.same(6 - team, relay.runningCount());
            relay.withdraw(team);
        }
        Check.same(0, relay.runningCount());
        Check.same(0, Worn.finished().runningCount());
    }

    /** "be it finished or not" */
    static void promise14StartedFromTheStartOnForGood() {
        Check.same(false, new QuillRelay().isStarted());
        Check.same(false, Races.prepared(6).isStarted());
        Check.same(true, Races.started(1).isStarted());
        Check.same(true, Worn.finished().isStarted());
    }

    /** "It is finished when it has been started and no team is running any more." */
    static void promise15FinishedOnlyWithTheLastTeam() {
        Check.same(false, new QuillRelay().isFinished());
        Check.same(false, Races.prepared(2).isFinished());
        QuillRelay relay = Races.started(2);
        Check.same(false, relay.isFinished());
        relay.withdraw(0);
        Check.same(false, relay.isFinished());
        relay.withdraw(1);
        Check.same(true, relay.isFinished());
        relay.undo();
        Check.same(false, relay.isFinished());
    }

    /** "the clock, which is 0 at first" */
    static void promise16ClockOfAPreparedRaceIsZero() {
        Check.same(0, new QuillRelay().clock());
        Check.same(0, Worn.prepared().clock());
        QuillRelay relay = Races.started(1);
        Check.same(0, relay.clock());
        relay.run(1);
        Check.same(1, relay.clock());
    }

    /** A team that stands, and a pass, a drop or a protest, do not hold the clock or move it. */
    static void promise16OnlySecondsMoveTheClock() {
        QuillRelay relay = Races.startedShort(2);
        relay.run(6);
        relay.pass(0);
        relay.drop(1, 20);
        relay.protest(0, 1, QuillRelay.DROP);
        relay.withdraw(0);
        Check.same(6, relay.clock());
        relay.run(5);
        Check.same(11, relay.clock());
    }

    /** "which is 1000 decimetres at first" */
    static void promise17LengthAtFirstAndAtItsLimits() {
        QuillRelay relay = new QuillRelay();
        Check.same(1000, relay.length());
        relay.setLength(400);
        Check.same(400, relay.length());
        relay.setLength(4000);
        Check.same(4000, relay.length());
    }

    static void promise18TeamNumbers() {
        teamNumbers((relay, team) -> relay.laneOf(team));
    }

    /** "The lane of a team is its number plus 1 until lanes are drawn." */
    static void promise18LanesUntilTheyAreDrawn() {
        QuillRelay relay = Races.prepared(6);
        for (int team = 0; team < 6; team++) {
            Check.same(team + 1, relay.laneOf(team));
        }
        relay.drawLanes(0);
        Check.same(4, relay.laneOf(0));
        relay.undo();
        Check.same(1, relay.laneOf(0));
    }

    /** Lanes are from 1 to the number of teams. */
    static void promise19Lanes() {
        Refused.with(Refused.NO_ELEMENT, QuillRelay::new, relay -> relay.teamInLane(1));
        Refused.with(Refused.NO_ELEMENT, Worn::prepared, relay -> relay.teamInLane(0));
        Refused.with(Refused.NO_ELEMENT, Worn::started, relay -> relay.teamInLane(4));
        QuillRelay three = Worn.finished();
        Check.same(2, three.teamInLane(1));
        Check.same(0, three.teamInLane(3));
        QuillRelay six = Races.prepared(6);
        Check.same(0, six.teamInLane(1));
        Check.same(5, six.teamInLane(6));
        Check.fails(Refused.NO_ELEMENT, () -> six.teamInLane(0));
        Check.fails(Refused.NO_ELEMENT, () -> six.teamInLane(7));
        for (int wrong : Refused.EXTREMES) {
            Check.fails(Refused.NO_ELEMENT, () -> six.teamInLane(wrong));
        }
    }

    static void promise20TeamNumbers() {
        teamNumbers((relay, team) -> relay.speedOf(team, 0));
        teamNumbers((relay, team) -> relay.speedOf(team, 3));
    }

    static void promise20Legs() {
        legNumbers((relay, leg) -> relay.speedOf(0, leg));
        legNumbers((relay, leg) -> relay.speedOf(2, leg));
    }

    static void promise21TeamNumbers() {
        teamNumbers((relay, team) -> relay.positionOf(team));
    }

    /** "0 at first" */
    static void promise21PositionIsZeroUntilTheFirstSecond() {
        QuillRelay relay = Races.prepared(1);
        Check.same(0, relay.positionOf(0));
        relay.start();
        Check.same(0, relay.positionOf(0));
        relay.run(1);
        Check.same(60, relay.positionOf(0));
    }

    static void promise22TeamNumbers() {
        teamNumbers((relay, team) -> relay.legOf(team));
    }

    /** "The runner of leg 0 carries the quill first.", and the one of leg 3 to the end and after it. */
    static void promise22FirstAndLastLeg() {
        QuillRelay relay = Races.preparedShort(1);
        Check.same(0, relay.legOf(0));
        relay.start();
        Check.same(0, relay.legOf(0));
        Races.runToLastLeg(relay);
        Check.same(3, relay.legOf(0));
        relay.run(200);
        Check.same(3, relay.legOf(0));
    }

    static void promise23TeamNumbers() {
        teamNumbers((relay, team) -> relay.isRunning(team));
    }

    static void promise23FromTheStartToTheSecondOfTheFinish() {
        QuillRelay relay = Races.preparedShort(1);
        Check.same(false, relay.isRunning(0));
        relay.start();
        Check.same(true, relay.isRunning(0));
        Races.runToLastLeg(relay);
        relay.run(9);
        Check.same(true, relay.isRunning(0));
        relay.run(1);
        Check.same(false, relay.isRunning(0));
    }

    static void promise24TeamNumbers() {
        teamNumbers((relay, team) -> relay.isInZone(team));
    }

    /** "the zone from 100 decimetres before to 100 decimetres behind the end of the leg" */
    static void promise24ZoneOfEachLeg() {
        for (int leg = 0; leg < 3; leg++) {
            Check.same(false, Zones.oneBefore(leg).isInZone(0));
            Check.same(true, Zones.atTheBeginning(leg).isInZone(0));
            Check.same(true, Zones.atTheEnd(leg).isInZone(0));
            Check.same(false, Zones.oneBehind(leg).isInZone(0));
        }
    }

    /** "false on leg 3", also where a zone of it would be and in the zone that the quill came from */
    static void promise24FalseOnTheLastLeg() {
        QuillRelay relay = Races.ranBy(500, new int[] {50, 10}, new int[] {50, 10}, new int[] {50, 10}, new int[] {50, 1});
        for (int second = 0; second < 12; second++) {
            Check.same(false, relay.isInZone(0));
            relay.run(1);
        }
        Check.same(2000, relay.positionOf(0));
    }

    static void promise24AfterThePassTheZoneIsTheNextOne() {
        QuillRelay relay = Zones.atTheBeginning(0);
        relay.pass(0);
        Check.same(false, relay.isInZone(0));
    }

    static void promise25TeamNumbers() {
        teamNumbers((relay, team) -> relay.standingOf(team));
    }

    static void promise25FromTheDropToZero() {
        QuillRelay relay = Races.started(1);
        Check.same(0, relay.standingOf(0));
        relay.drop(0, 20);
        for (int left = 20; left > 0; left--) {
            Check.same(left, relay.standingOf(0));
            relay.run(1);
        }
        Check.same(0, relay.standingOf(0));
        relay.run(1);
        Check.same(0, relay.standingOf(0));
    }

    static void promise26TeamNumbers() {
        teamNumbers((relay, team) -> relay.penaltyOf(team));
    }

    /** "a penalty in seconds, which is 0 at first"; a drop or a late pass alone adds nothing to it */
    static void promise26PenaltyIsZeroUntilAProtest() {
        QuillRelay relay = Races.startedShort(2);
        Check.same(0, relay.penaltyOf(0));
        relay.run(6);
        relay.drop(0, 1);
        relay.run(200);
        relay.pass(0);
        Check.same(0, relay.penaltyOf(0));
        relay.protest(1, 0, QuillRelay.LATE);
        Check.same(10, relay.penaltyOf(0));
    }

    static void promise27TeamNumbers() {
        teamNumbers((relay, team) -> relay.hasFoul(team, QuillRelay.LATE));
        teamNumbers((relay, team) -> relay.hasFoul(team, QuillRelay.DROP));
    }

    static void promise27Kinds() {
        Refused.with(Refused.ARGUMENT, Worn::started, relay -> relay.hasFoul(0, -1));
        Refused.with(Refused.ARGUMENT, Worn::started, relay -> relay.hasFoul(2, 2));
        QuillRelay relay = Worn.started();
        Check.same(true, relay.hasFoul(2, 0));
        Check.same(false, relay.hasFoul(2, 1));
        Check.same(true, relay.hasFoul(1, 1));
        Check.same(false, relay.hasFoul(1, 0));
        for (int wrong : Refused.EXTREMES) {
            Check.fails(Refused.ARGUMENT, () -> relay.hasFoul(0, wrong));
        }
    }

    static void promise27OrderOfExceptions() {
        Refused.with(Refused.INDEX, Worn::started, relay -> relay.hasFoul(3, 2));
        Refused.with(Refused.INDEX, Worn::prepared, relay -> relay.hasFoul(-1, -1));
    }

    static void promise28TeamNumbers() {
        teamNumbers((relay, team) -> relay.splitOf(team, 0));
        teamNumbers((relay, team) -> relay.splitOf(team, 3));
    }

    static void promise28Legs() {
        legNumbers((relay, leg) -> relay.splitOf(0, leg));
        legNumbers((relay, leg) -> relay.splitOf(2, leg));
    }

    /** "until the end of a leg, which is its pass": the leg has ended with the pass, not before and not at its end. */
    static void promise28LegEndsWithItsPass() {
        QuillRelay relay = Races.startedShort(1);
        int[] seconds = {6, 8, 8};
        for (int leg = 0; leg < 3; leg++) {
            int ended = leg;
            relay.run(seconds[leg]);
            Check.fails(Refused.NO_ELEMENT, () -> relay.splitOf(0, ended));
            relay.pass(0);
            Check.same(seconds[leg], relay.splitOf(0, leg));
            Check.fails(Refused.NO_ELEMENT, () -> relay.splitOf(0, ended + 1));
        }
    }

    /** "or the finish for leg 3" */
    static void promise28LastLegEndsWithTheFinish() {
        QuillRelay relay = Races.startedShort(1);
        Races.runToLastLeg(relay);
        relay.run(9);
        Check.fails(Refused.NO_ELEMENT, () -> relay.splitOf(0, 3));
        relay.run(1);
        Check.same(10, relay.splitOf(0, 3));
        relay.run(50);
        Check.same(10, relay.splitOf(0, 3));
    }

    static void promise28RefusedWhenTheLegHasNotEnded() {
        Refused.with(Refused.NO_ELEMENT, Worn::prepared, relay -> relay.splitOf(0, 0));
        Refused.with(Refused.NO_ELEMENT, Worn::started, relay -> relay.splitOf(1, 0));
        Refused.with(Refused.NO_ELEMENT, Worn::started, relay -> relay.splitOf(0, 1));
        Refused.with(Refused.NO_ELEMENT, Worn::finished, relay -> relay.splitOf(2, 0));
    }

    static void promise28SplitOfNoSecondsIsASplit() {
        QuillRelay relay = Races.startedShort(1);
        relay.run(200);
        relay.pass(0);
        relay.pass(0);
        Check.same(200, relay.splitOf(0, 0));
        Check.same(0, relay.splitOf(0, 1));
        Check.fails(Refused.NO_ELEMENT, () -> relay.splitOf(0, 2));
    }

    static void promise28OrderOfExceptions() {
        Refused.with(Refused.INDEX, Worn::prepared, relay -> relay.splitOf(0, 4));
        Refused.with(Refused.INDEX, Worn::started, relay -> relay.splitOf(3, 0));
        Refused.with(Refused.INDEX, Worn::started, relay -> relay.splitOf(1, -1));
    }

    static void promise29TeamNumbers() {
        teamNumbers((relay, team) -> relay.splitSum(team));
    }

    /** "0 if the team has not ended any leg", also while it runs */
    static void promise29NoLegAndAllLegs() {
        QuillRelay relay = Races.preparedShort(1);
        Check.same(0, relay.splitSum(0));
        relay.start();
        relay.run(6);
        Check.same(0, relay.splitSum(0));
        relay.pass(0);
        Check.same(6, relay.splitSum(0));
        relay.run(8);
        Check.same(6, relay.splitSum(0));
        QuillRelay finished = Races.finishedShort();
        Check.same(32, finished.splitSum(0));
        finished.undo();
        Check.same(22, finished.splitSum(0));
    }

    static void promise30TeamNumbers() {
        teamNumbers((relay, team) -> relay.timeOf(team));
    }

    /** "if the team has not finished": in no state but after the second of its finish */
    static void promise30RefusedWhenTheTeamHasNotFinished() {
        Refused.with(Refused.NO_ELEMENT, Worn::prepared, relay -> relay.timeOf(0));
        Refused.with(Refused.NO_ELEMENT, Worn::started, relay -> relay.timeOf(2));
        Refused.with(Refused.NO_ELEMENT, Worn::finished, relay -> relay.timeOf(2));
        Refused.with(Refused.NO_ELEMENT, () -> onLastLegFor(9), relay -> relay.timeOf(0));
        Check.same(32, onLastLegFor(10).timeOf(0));
        Check.same(32, onLastLegFor(200).timeOf(0));
    }

    private static QuillRelay onLastLegFor(int seconds) {
        QuillRelay relay = Races.startedShort(2);
        Races.runToLastLeg(relay);
        relay.run(seconds);
        return relay;
    }

    static void promise31TeamNumbers() {
        teamNumbers((relay, team) -> relay.resultOf(team));
    }

    static void promise31RefusedWhenTheTeamHasNotFinished() {
        Refused.with(Refused.NO_ELEMENT, Worn::prepared, relay -> relay.resultOf(0));
        Refused.with(Refused.NO_ELEMENT, Worn::started, relay -> relay.resultOf(1));
        Refused.with(Refused.NO_ELEMENT, Worn::finished, relay -> relay.resultOf(2));
        Refused.with(Refused.NO_ELEMENT, () -> onLastLegFor(9), relay -> relay.resultOf(1));
        Check.same(32, onLastLegFor(10).resultOf(1));
    }

    /** "its time plus its penalty", of protests before the finish and after it */
    static void promise31PenaltiesBeforeAndAfterTheFinish() {
        QuillRelay relay = onLastLegFor(9);
        relay.protest(0, 1, QuillRelay.LATE);
        relay.run(1);
        Check.same(37, relay.resultOf(0));
        relay.protest(0, 1, QuillRelay.LATE);
        Check.same(42, relay.resultOf(0));
        Check.same(32, relay.timeOf(0));
    }

    /** "if there is no such rank": ranks are from 0 to one less than the number of teams. */
    static void promise32Ranks() {
        Refused.with(Refused.NO_ELEMENT, QuillRelay::new, relay -> relay.teamAtRank(0));
        Refused.with(Refused.NO_ELEMENT, Worn::prepared, relay -> relay.teamAtRank(-1));
        Refused.with(Refused.NO_ELEMENT, Worn::started, relay -> relay.teamAtRank(3));
        Refused.with(Refused.NO_ELEMENT, Worn::finished, relay -> relay.teamAtRank(3));
        QuillRelay six = Races.prepared(6);
        Check.same(0, six.teamAtRank(0));
        Check.same(5, six.teamAtRank(5));
        Check.fails(Refused.NO_ELEMENT, () -> six.teamAtRank(-1));
        Check.fails(Refused.NO_ELEMENT, () -> six.teamAtRank(6));
        for (int wrong : Refused.EXTREMES) {
            Check.fails(Refused.NO_ELEMENT, () -> six.teamAtRank(wrong));
        }
    }

    /** "teams that are equal by that are ranked by their lanes, the lowest first", in each of the groups */
    static void promise32EqualTeamsByLanes() {
        QuillRelay relay = Races.preparedShort(2);
        Check.same(0, relay.teamAtRank(0));
        relay.drawLanes(2);
        Check.same(1, relay.teamAtRank(0));
        relay.start();
        relay.run(5);
        Check.same(1, relay.teamAtRank(0));
        relay.withdraw(1);
        Check.same(0, relay.teamAtRank(0));
        relay.withdraw(0);
        Check.same(1, relay.teamAtRank(0));
        QuillRelay finished = Races.preparedShort(2);
        finished.drawLanes(2);
        finished.start();
        Races.runToLastLeg(finished);
        finished.run(10);
        Check.same(1, finished.teamAtRank(0));
        Check.same(0, finished.teamAtRank(1));
    }

    /** One decimetre more, or one second less, decides before the lanes do. */
    static void promise32LeastDifferenceIsAheadOfTheLane() {
        QuillRelay relay = Races.preparedShort(2);
        relay.setSpeed(1, 0, 51);
        relay.start();
        Check.same(0, relay.teamAtRank(0));
        relay.run(1);
        Check.same(51, relay.positionOf(1));
        Check.same(1, relay.teamAtRank(0));
        QuillRelay finished = Races.startedShort(2);
        Races.runToLastLeg(finished);
        finished.drop(0, 1);
        finished.run(11);
        Check.same(33, finished.resultOf(0));
        Check.same(32, finished.resultOf(1));
        Check.same(1, finished.teamAtRank(0));
    }

    static void promise33TeamNumbers() {
        teamNumbers((relay, team) -> relay.rankOf(team));
    }

    /** "then those that have withdrawn, by their positions as well", not by their results or numbers */
    static void promise33WithdrawnTeamsAreLastByTheirPositions() {
        QuillRelay relay = Races.started(3);
        relay.run(1);
        relay.withdraw(0);
        relay.run(1);
        relay.withdraw(1);
        Check.same(2, relay.rankOf(0));
        Check.same(1, relay.rankOf(1));
        Check.same(0, relay.rankOf(2));
        relay.withdraw(2);
        Check.same(0, relay.rankOf(1));
        Check.same(1, relay.rankOf(2));
    }

    /** "first those that have finished": also one with a great penalty, ahead of one that is a step before the finish. */
    static void promise33FinishedTeamIsAheadOfRunningOnes() {
        QuillRelay relay = onLastLegFor(8);
        relay.drop(0, 20);
        relay.run(2);
        for (int protests = 0; protests < 20; protests++) {
            relay.protest(1, 0, QuillRelay.LATE);
        }
        Check.same(132, relay.resultOf(1));
        Check.same(0, relay.rankOf(1));
        Check.same(1, relay.rankOf(0));
        Check.same(1, relay.teamAtRank(0));
        Check.same(0, relay.teamAtRank(1));
    }

    /** A running team that has not moved is ahead of a withdrawn one that is far. */
    static void promise33GroupsAreAheadOfPositions() {
        QuillRelay relay = Races.startedShort(2);
        relay.drop(1, 20);
        relay.run(12);
        relay.withdraw(0);
        Check.same(0, relay.positionOf(1));
        Check.same(0, relay.rankOf(1));
        Check.same(1, relay.rankOf(0));
    }

    static void promise33RanksOfEqualResults() {
        QuillRelay relay = Races.startedShort(2);
        Races.runToLastLeg(relay);
        relay.drop(1, 5);
        relay.run(15);
        relay.protest(0, 1, QuillRelay.LATE);
        Check.same(37, relay.resultOf(0));
        Check.same(37, relay.resultOf(1));
        Check.same(0, relay.rankOf(0));
        Check.same(1, relay.rankOf(1));
        relay.protest(0, 1, QuillRelay.LATE);
        Check.same(1, relay.rankOf(0));
    }

    static void promise34RefusedWhenNoTeamHasFinished() {
        Refused.with(Refused.ARITHMETIC, QuillRelay::new, relay -> relay.meanTime());
        Refused.with(Refused.ARITHMETIC, Worn::prepared, relay -> relay.meanTime());
        Refused.with(Refused.ARITHMETIC, Worn::started, relay -> relay.meanTime());
        Refused.with(Refused.ARITHMETIC, QuestionEdgesTest::allWithdrawn, relay -> relay.meanTime());
    }

    private static QuillRelay allWithdrawn() {
        QuillRelay relay = Races.started(2);
        relay.run(7);
        relay.withdraw(0);
        relay.withdraw(1);
        return relay;
    }

    /** "without penalties", and without the teams that have not finished */
    static void promise34OneTeamAndSixTeams() {
        QuillRelay one = Races.startedShort(2);
        Races.runToLastLeg(one);
        one.withdraw(1);
        one.run(10);
        one.protest(0, 1, QuillRelay.LATE);
        Check.same(32.0, one.meanTime());
        QuillRelay six = Races.startedShort(6);
        Races.runToLastLeg(six);
        six.drop(5, 1);
        six.run(11);
        Check.same(193.0 / 6.0, six.meanTime());
    }
}
