/** The boundary cases that the document names for promises 7 to 11, with the terms that belong to them. */
final class RacingEdgesTest {
    private RacingEdgesTest() {
    }

    // ---- run

    /** "number of seconds, 1 to 200" */
    static void promise7Seconds() {
        Refused.with(Refused.ARGUMENT, Worn::started, relay -> relay.run(0));
        Refused.with(Refused.ARGUMENT, Worn::started, relay -> relay.run(201));
        QuillRelay relay = Races.started(1);
        relay.run(1);
        Check.same(1, relay.clock());
        relay.run(200);
        Check.same(201, relay.clock());
        for (int wrong : Refused.EXTREMES) {
            Check.fails(Refused.ARGUMENT, () -> relay.run(wrong));
        }
    }

    static void promise7RefusedWhenTheRaceIsPrepared() {
        Refused.with(Refused.STATE, Worn::prepared, relay -> relay.run(1));
        Refused.with(Refused.STATE, QuillRelay::new, relay -> relay.run(200));
    }

    static void promise7OrderOfExceptions() {
        Refused.with(Refused.ARGUMENT, Worn::prepared, relay -> relay.run(0));
        Refused.with(Refused.ARGUMENT, Worn::prepared, relay -> relay.run(201));
    }

    /** "The clock goes on when the race is finished." */
    static void promise7FinishedRaceRunsOn() {
        QuillRelay relay = Worn.finished();
        String before = Races.state(relay);
        int clock = relay.clock();
        Check.same(0, relay.run(200));
        Check.same(clock + 200, relay.clock());
        relay.undo();
        Check.same(before, Races.state(relay));
    }

    static void promise7ReturnsNoneOrAll() {
        QuillRelay relay = Races.startedShort(6);
        Check.same(0, relay.run(6));
        relay.undo();
        Races.runToLastLeg(relay);
        Check.same(0, relay.run(9));
        Check.same(6, relay.run(1));
        Check.same(0, relay.run(1));
    }

    /** "the speed minus n / 10": the tenth second is the last one without tiring, the twentieth the last one with 1. */
    static void promise7TiringBeginsWithTheEleventhSecond() {
        int[][] secondsAndDue = {{1, 60}, {9, 540}, {10, 600}, {11, 659}, {19, 1131}, {20, 1190}, {21, 1248}};
        for (int[] row : secondsAndDue) {
            QuillRelay relay = Races.ranBy(4000, new int[] {60, row[0]});
            Check.same(row[0] + " seconds", row[1], relay.positionOf(0));
        }
    }

    /** "but at least 10": a runner of speed 20 comes to 10 in the second number 100, and stays at it from number 110 on. */
    static void promise7LeastPace() {
        int[][] secondsAndDue = {{99, 1539}, {100, 1550}, {101, 1560}, {110, 1650}, {111, 1660}, {121, 1760}};
        for (int[] row : secondsAndDue) {
            QuillRelay relay = Races.ranBy(4000, new int[] {20, row[0]});
            Check.same(row[0] + " seconds", row[1], relay.positionOf(0));
        }
    }

    /** "never gets farther than 300 decimetres behind the end of the leg": 700 is just reached, or just not. */
    static void promise7RunnerStandsThreeHundredBehindTheEnd() {
        int[][] lengthAndDue = {{400, 700}, {401, 701}, {402, 702}, {500, 769}};
        for (int[] row : lengthAndDue) {
            QuillRelay relay = Races.ranBy(row[0], new int[] {70, 10});
            Check.same(700, relay.positionOf(0));
            relay.run(1);
            Check.same("length " + row[0], row[1], relay.positionOf(0));
        }
        QuillRelay tenBehind = Races.ranBy(400, new int[] {71, 9});
        Check.same(639, tenBehind.positionOf(0));
        tenBehind.run(1);
        Check.same(700, tenBehind.positionOf(0));
        tenBehind.run(200);
        Check.same(700, tenBehind.positionOf(0));
    }

    /** "A runner of one of the legs 0 to 2": so it is on each of them. */
    static void promise7RunnersOfLegsOneAndTwoStandAsWell() {
        QuillRelay relay = Races.ranBy(400, new int[] {40, 10}, new int[] {71, 9});
        Check.same(1039, relay.positionOf(0));
        relay.run(1);
        Check.same(1100, relay.positionOf(0));
        relay.run(200);
        Check.same(1100, relay.positionOf(0));
        QuillRelay second = Races.ranBy(400, new int[] {40, 10}, new int[] {40, 10}, new int[] {69, 10});
        Check.same(1490, second.positionOf(0));
        second.run(1);
        Check.same(1500, second.positionOf(0));
        second.run(200);
        Check.same(1500, second.positionOf(0));
        Check.same(true, second.isRunning(0));
    }

    /** A team that only stands, for a dropped quill or behind the leg, does not finish. */
    static void promise7StandingTeamsDoNotFinish() {
        QuillRelay relay = Races.started(2);
        relay.run(30);
        relay.drop(0, 20);
        Check.same(0, relay.run(1));
        Check.same(0, relay.run(30));
        Check.same(2, relay.runningCount());
    }

    /** "finishes when its position is at least 4 times the length", with 2000 but not with 1999 */
    static void promise7FinishAtFourTimesTheLength() {
        int[] pace = {50, 10};
        QuillRelay exact = Races.ranBy(500, pace, pace, pace, pace);
        Check.same(2000, exact.positionOf(0));
        Check.same(false, exact.isRunning(0));
        Check.same(40, exact.timeOf(0));
        QuillRelay missing = Races.ranBy(500, pace, new int[] {49, 10}, new int[] {73, 7}, new int[] {83, 6});
        Check.same(1999, missing.positionOf(0));
        Check.same(true, missing.isRunning(0));
        Check.same(1, missing.run(1));
        Check.same(34, missing.timeOf(0));
    }

    /** "A team whose runner of leg 3 carries the quill finishes": nobody else does, however far the team is. */
    static void promise7OnlyTheLastRunnerFinishes() {
        QuillRelay relay = Races.started(1);
        for (int leg = 0; leg < 3; leg++) {
            Check.same(0, relay.run(200));
            Check.same(true, relay.isRunning(0));
            relay.pass(0);
        }
        Check.same(1, relay.run(200));
    }

    /** "a team that stands for a dropped quill has one second less to stand; any other one runs" */
    static void promise7LastSecondOfStandingAndTheFirstAfterIt() {
        QuillRelay relay = Races.started(1);
        relay.drop(0, 1);
        relay.run(1);
        Check.same(0, relay.standingOf(0));
        Check.same(0, relay.positionOf(0));
        relay.run(1);
        Check.same(60, relay.positionOf(0));
        relay.drop(0, 20);
        relay.run(19);
        Check.same(1, relay.standingOf(0));
        relay.run(2);
        Check.same(0, relay.standingOf(0));
        Check.same(120, relay.positionOf(0));
    }

    /** "these are not counted for the tiring either": ten seconds of running in all, then the pace of the eleventh. */
    static void promise7StandingDoesNotTire() {
        QuillRelay relay = Races.started(1);
        relay.run(9);
        relay.drop(0, 20);
        relay.run(21);
        Check.same(600, relay.positionOf(0));
        relay.run(1);
        Check.same(659, relay.positionOf(0));
    }

    /** "An object is used for at most 512 calls": none of the sums comes to a limit of its own by then. */
    static void promise7ClockOfTheLongestUse() {
        QuillRelay relay = Races.started(1);
        for (int call = 0; call < 509; call++) {
            relay.run(200);
        }
        Check.same(101800, relay.clock());
    }

    // ---- pass

    static void promise8TeamNumbers() {
        Refused.with(Refused.INDEX, Worn::started, relay -> relay.pass(-1));
        Refused.with(Refused.INDEX, Worn::started, relay -> relay.pass(3));
        QuillRelay relay = Races.startedShort(6);
        Check.fails(Refused.INDEX, () -> relay.pass(6));
        relay.run(6);
        Check.same(6, relay.pass(0));
        Check.same(6, relay.pass(5));
        for (int wrong : Refused.EXTREMES) {
            Check.fails(Refused.INDEX, () -> relay.pass(wrong));
        }
    }

    static void promise8RefusedWhenTheTeamIsNotRunning() {
        Refused.with(Refused.STATE, Worn::prepared, relay -> relay.pass(0));
        Refused.with(Refused.STATE, RacingEdgesTest::inZoneButWithdrawn, relay -> relay.pass(0));
        Refused.with(Refused.STATE, Races::finishedShort, relay -> relay.pass(0));
    }

    private static QuillRelay inZoneButWithdrawn() {
        QuillRelay relay = Races.startedShort(2);
        relay.run(8);
        relay.withdraw(0);
        return relay;
    }

    /** No refusal is stored then, though a reason applies: too early, dropped, last leg. */
    static void promise8OrderOfExceptions() {
        Refused.with(Refused.INDEX, Worn::prepared, relay -> relay.pass(3));
        Refused.with(Refused.INDEX, Worn::finished, relay -> relay.pass(-1));
        Refused.with(Refused.STATE, () -> Races.prepared(1), relay -> relay.pass(0));
        Refused.with(Refused.STATE, Worn::finished, relay -> relay.pass(2));
        Refused.with(Refused.STATE, Worn::finished, relay -> relay.pass(0));
    }

    /** "if the position is less than the beginning of the zone (TOO_EARLY)", on each of the legs 0 to 2 */
    static void promise8BeginningOfTheZone() {
        for (int leg = 0; leg < 3; leg++) {
            int carrying = leg;
            Refused.pass(QuillRelay.TOO_EARLY, () -> Zones.oneBefore(carrying), 0);
            QuillRelay inside = Zones.atTheBeginning(leg);
            inside.pass(0);
            Check.same(leg + 1, inside.legOf(0));
            Check.same(false, inside.hasFoul(0, QuillRelay.LATE));
        }
    }

    /** "A pass at a position behind the end of the zone is possible, but it is a foul (LATE)." */
    static void promise8EndOfTheZone() {
        for (int leg = 0; leg < 3; leg++) {
            QuillRelay inside = Zones.atTheEnd(leg);
            inside.pass(0);
            Check.same(false, inside.hasFoul(0, QuillRelay.LATE));
            QuillRelay behind = Zones.oneBehind(leg);
            behind.pass(0);
            Check.same(leg + 1, behind.legOf(0));
            Check.same(true, behind.hasFoul(0, QuillRelay.LATE));
            Check.same(false, behind.hasFoul(0, QuillRelay.DROP));
        }
    }

    static void promise8PassWhereTheRunnerStands() {
        QuillRelay relay = Races.ranBy(1000, new int[] {99, 20});
        Check.same(1300, relay.positionOf(0));
        Check.same(20, relay.pass(0));
        Check.same(true, relay.hasFoul(0, QuillRelay.LATE));
        Check.same(1300, relay.positionOf(0));
    }

    /** "if the team stands for a dropped quill (DROPPED)": with one second left, but not with none. */
    static void promise8LastSecondOfStanding() {
        Refused.pass(QuillRelay.DROPPED, () -> standing(2), 0);
        QuillRelay relay = standing(3);
        Check.same(0, relay.standingOf(0));
        Check.same(9, relay.pass(0));
    }

    private static QuillRelay standing(int seconds) {
        QuillRelay relay = Races.startedShort(2);
        relay.run(6);
        relay.drop(0, 3);
        relay.run(seconds);
        return relay;
    }

    /** "if the last runner carries the quill (LAST_LEG)": runner 2 can still pass. */
    static void promise8LastRunnerCannotPass() {
        QuillRelay relay = Races.startedShort(1);
        relay.run(200);
        relay.pass(0);
        relay.run(200);
        relay.pass(0);
        Check.same(2, relay.legOf(0));
        relay.run(200);
        relay.pass(0);
        Check.same(3, relay.legOf(0));
        Refused.pass(QuillRelay.LAST_LEG, RacingEdgesTest::onLastLeg, 0);
    }

    private static QuillRelay onLastLeg() {
        QuillRelay relay = Races.startedShort(2);
        Races.runToLastLeg(relay);
        return relay;
    }

    /** "the first of these reasons that applies" */
    static void promise8OrderOfReasons() {
        Refused.pass(QuillRelay.DROPPED, RacingEdgesTest::droppedAtTheStart, 0);
        Refused.pass(QuillRelay.DROPPED, RacingEdgesTest::droppedOnLastLeg, 0);
        Refused.pass(QuillRelay.LAST_LEG, RacingEdgesTest::onLastLeg, 0);
        QuillRelay inLastZone = onLastLeg();
        inLastZone.run(9);
        Check.same(1550, inLastZone.positionOf(0));
        Check.fails(Refused.UNSUPPORTED, () -> inLastZone.pass(0));
        Check.same(QuillRelay.LAST_LEG, inLastZone.refusalReason());
    }

    private static QuillRelay droppedAtTheStart() {
        QuillRelay relay = Races.startedShort(2);
        relay.drop(0, 1);
        return relay;
    }

    private static QuillRelay droppedOnLastLeg() {
        QuillRelay relay = onLastLeg();
        relay.drop(0, 1);
        return relay;
    }

    /** "or at the start if there was none" */
    static void promise8ReturnsTheSecondsSinceTheStartOrTheLastPass() {
        QuillRelay relay = Races.startedShort(2);
        relay.run(200);
        Check.same(200, relay.pass(0));
        Check.same(0, relay.pass(0));
        relay.run(8);
        Check.same(8, relay.pass(0));
        Check.same(208, relay.pass(1));
    }

    /** "A pass takes no time." "The new runner runs from the next second on, beginning with the second number 0." */
    static void promise8NewRunnerBeginsWithSecondZero() {
        QuillRelay relay = Races.ranBy(1000, new int[] {50, 20}, new int[] {70, 1});
        Check.same(990 + 70, relay.positionOf(0));
        Check.same(21, relay.clock());
        relay.run(9);
        Check.same(990 + 700, relay.positionOf(0));
        relay.run(1);
        Check.same(990 + 769, relay.positionOf(0));
    }

    static void promise8RefusedPassKeepsTheReasonOfTheLastRefusalOnly() {
        QuillRelay relay = droppedAtTheStart();
        Check.fails(Refused.UNSUPPORTED, () -> relay.pass(0));
        Check.fails(Refused.UNSUPPORTED, () -> relay.pass(1));
        Check.same(QuillRelay.TOO_EARLY, relay.refusalReason());
        Check.same(1, relay.refusedTeam());
    }

    // ---- drop

    static void promise9TeamNumbers() {
        Refused.with(Refused.INDEX, Worn::started, relay -> relay.drop(-1, 5));
        Refused.with(Refused.INDEX, Worn::started, relay -> relay.drop(3, 5));
        QuillRelay relay = Races.started(6);
        Check.fails(Refused.INDEX, () -> relay.drop(6, 5));
        Check.same(5, relay.drop(0, 5));
        Check.same(6, relay.drop(5, 6));
        for (int wrong : Refused.EXTREMES) {
            Check.fails(Refused.INDEX, () -> relay.drop(wrong, 5));
        }
    }

    /** "the seconds for which the team stands, 1 to 20" */
    static void promise9Seconds() {
        Refused.with(Refused.ARGUMENT, Worn::started, relay -> relay.drop(0, 0));
        Refused.with(Refused.ARGUMENT, Worn::started, relay -> relay.drop(1, 21));
        QuillRelay relay = Races.started(2);
        Check.same(1, relay.drop(0, 1));
        Check.same(20, relay.drop(1, 20));
        for (int wrong : Refused.EXTREMES) {
            Check.fails(Refused.ARGUMENT, () -> relay.drop(0, wrong));
        }
    }

    static void promise9RefusedWhenTheTeamIsNotRunning() {
        Refused.with(Refused.STATE, Worn::prepared, relay -> relay.drop(0, 1));
        Refused.with(Refused.STATE, RacingEdgesTest::inZoneButWithdrawn, relay -> relay.drop(0, 1));
        Refused.with(Refused.STATE, Worn::finished, relay -> relay.drop(1, 20));
        Refused.with(Refused.STATE, Worn::finished, relay -> relay.drop(2, 20));
    }

    static void promise9OrderOfExceptions() {
        Refused.with(Refused.INDEX, Worn::started, relay -> relay.drop(3, 0));
        Refused.with(Refused.INDEX, Worn::started, relay -> relay.drop(-1, 21));
        Refused.with(Refused.INDEX, Worn::prepared, relay -> relay.drop(3, 1));
        Refused.with(Refused.INDEX, Worn::prepared, relay -> relay.drop(-1, 0));
        Refused.with(Refused.ARGUMENT, Worn::prepared, relay -> relay.drop(0, 0));
        Refused.with(Refused.ARGUMENT, Worn::finished, relay -> relay.drop(0, 21));
        Refused.with(Refused.ARGUMENT, RacingEdgesTest::inZoneButWithdrawn, relay -> relay.drop(0, 21));
    }

    /** "adds its seconds to those that are left": to one second left, and to none. */
    static void promise9AddsToTheSecondsThatAreLeft() {
        QuillRelay relay = Races.started(1);
        Check.same(20, relay.drop(0, 20));
        Check.same(40, relay.drop(0, 20));
        relay.run(39);
        Check.same(1, relay.standingOf(0));
        Check.same(21, relay.drop(0, 20));
        relay.run(21);
        Check.same(2, relay.drop(0, 2));
    }

    static void promise9SecondsOfTheLongestUse() {
        QuillRelay relay = Races.started(1);
        for (int call = 1; call <= 509; call++) {
            Check.same(20 * call, relay.drop(0, 20));
        }
    }

    /** "A team that drops its quill in the zone of its leg commits a foul as well (DROP)." */
    static void promise9ZoneOfEachLeg() {
        for (int leg = 0; leg < 3; leg++) {
            Check.same(false, hasFoulAfterDrop(Zones.oneBefore(leg)));
            Check.same(true, hasFoulAfterDrop(Zones.atTheBeginning(leg)));
            Check.same(true, hasFoulAfterDrop(Zones.atTheEnd(leg)));
            Check.same(false, hasFoulAfterDrop(Zones.oneBehind(leg)));
        }
    }

    private static boolean hasFoulAfterDrop(QuillRelay relay) {
        relay.drop(0, 1);
        Check.same(false, relay.hasFoul(0, QuillRelay.LATE));
        return relay.hasFoul(0, QuillRelay.DROP);
    }

    /** The quill of leg 3 is passed to nobody, so that leg has no zone, as isInZone says. */
    static void promise9LastLegHasNoZone() {
        QuillRelay relay = Races.ranBy(500, new int[] {50, 10}, new int[] {50, 10}, new int[] {50, 10}, new int[] {50, 9});
        Check.same(1950, relay.positionOf(0));
        Check.same(false, hasFoulAfterDrop(relay));
    }

    /** "A team has each kind of foul at most once." */
    static void promise9SecondDropInTheZoneAddsNoFoul() {
        QuillRelay relay = Races.startedShort(2);
        relay.run(6);
        relay.drop(0, 1);
        relay.drop(0, 1);
        Check.same(true, relay.protest(1, 0, QuillRelay.DROP));
        Check.same(false, relay.protest(1, 0, QuillRelay.DROP));
        Check.same(10, relay.penaltyOf(0));
    }

    /** "A foul that has been removed can be committed again." */
    static void promise9RemovedFoulIsCommittedAgain() {
        QuillRelay relay = Races.startedShort(2);
        relay.run(6);
        relay.drop(0, 1);
        relay.protest(1, 0, QuillRelay.DROP);
        Check.same(false, relay.hasFoul(0, QuillRelay.DROP));
        relay.drop(0, 1);
        Check.same(true, relay.hasFoul(0, QuillRelay.DROP));
        Check.same(true, relay.protest(1, 0, QuillRelay.DROP));
        Check.same(20, relay.penaltyOf(0));
    }

    // ---- withdraw

    static void promise10TeamNumbers() {
        Refused.with(Refused.INDEX, Worn::started, relay -> relay.withdraw(-1));
        Refused.with(Refused.INDEX, Worn::started, relay -> relay.withdraw(3));
        QuillRelay relay = Races.started(6);
        Check.fails(Refused.INDEX, () -> relay.withdraw(6));
        Check.same(5, relay.withdraw(5));
        Check.same(4, relay.withdraw(0));
        for (int wrong : Refused.EXTREMES) {
            Check.fails(Refused.INDEX, () -> relay.withdraw(wrong));
        }
    }

    static void promise10RefusedWhenTheTeamIsNotRunning() {
        Refused.with(Refused.STATE, Worn::prepared, relay -> relay.withdraw(0));
        Refused.with(Refused.STATE, Worn::finished, relay -> relay.withdraw(0));
        Refused.with(Refused.STATE, Worn::finished, relay -> relay.withdraw(2));
        Refused.with(Refused.STATE, RacingEdgesTest::inZoneButWithdrawn, relay -> relay.withdraw(0));
    }

    static void promise10OrderOfExceptions() {
        Refused.with(Refused.INDEX, Worn::prepared, relay -> relay.withdraw(3));
        Refused.with(Refused.INDEX, Worn::finished, relay -> relay.withdraw(-1));
    }

    static void promise10LastTeamThatRuns() {
        QuillRelay relay = Races.started(2);
        Check.same(1, relay.withdraw(1));
        Check.same(false, relay.isFinished());
        Check.same(0, relay.withdraw(0));
        Check.same(true, relay.isFinished());
    }

    /** "A team that withdraws keeps its position and the seconds for which it stands." */
    static void promise10KeepsPositionAndStanding() {
        QuillRelay relay = Races.started(2);
        relay.run(1);
        relay.drop(0, 20);
        relay.withdraw(0);
        relay.run(200);
        Check.same(60, relay.positionOf(0));
        Check.same(20, relay.standingOf(0));
    }

    // ---- protest

    /** "if there is no such team, for either" */
    static void promise11TeamNumbers() {
        int[][] wrongTeams = {{-1, 0}, {3, 0}, {0, -1}, {0, 3}};
        for (int[] wrong : wrongTeams) {
            Refused.with(Refused.INDEX, Worn::started, relay -> relay.protest(wrong[0], wrong[1], QuillRelay.LATE));
        }
        QuillRelay relay = Races.started(6);
        Check.fails(Refused.INDEX, () -> relay.protest(6, 0, QuillRelay.LATE));
        Check.fails(Refused.INDEX, () -> relay.protest(0, 6, QuillRelay.LATE));
        Check.same(false, relay.protest(0, 5, QuillRelay.LATE));
        Check.same(false, relay.protest(5, 0, QuillRelay.LATE));
        for (int wrong : Refused.EXTREMES) {
            Check.fails(Refused.INDEX, () -> relay.protest(wrong, 0, QuillRelay.LATE));
            Check.fails(Refused.INDEX, () -> relay.protest(0, wrong, QuillRelay.LATE));
        }
    }

    /** "if both teams are the same", be there a foul to protest against or not */
    static void promise11RefusedAgainstItself() {
        Refused.with(Refused.ARGUMENT, Worn::started, relay -> relay.protest(0, 0, QuillRelay.LATE));
        Refused.with(Refused.ARGUMENT, Worn::started, relay -> relay.protest(2, 2, QuillRelay.LATE));
        Refused.with(Refused.ARGUMENT, Worn::finished, relay -> relay.protest(1, 1, QuillRelay.DROP));
    }

    static void promise11Kinds() {
        Refused.with(Refused.ARGUMENT, Worn::started, relay -> relay.protest(0, 1, -1));
        Refused.with(Refused.ARGUMENT, Worn::started, relay -> relay.protest(0, 1, 2));
        QuillRelay relay = Worn.started();
        Check.same(true, relay.protest(0, 2, 0));
        Check.same(true, relay.protest(0, 1, 1));
        for (int wrong : Refused.EXTREMES) {
            Check.fails(Refused.ARGUMENT, () -> relay.protest(0, 1, wrong));
        }
    }

    static void promise11RefusedWhenTheRaceIsPrepared() {
        Refused.with(Refused.STATE, Worn::prepared, relay -> relay.protest(0, 1, QuillRelay.LATE));
        Refused.with(Refused.STATE, Worn::prepared, relay -> relay.protest(2, 1, QuillRelay.DROP));
    }

    /** "While the race is started or finished": right after the start, and after the finish of all. */
    static void promise11PossibleFromTheStartOnAndAfterTheFinish() {
        QuillRelay relay = Races.started(2);
        Check.same(false, relay.protest(0, 1, QuillRelay.LATE));
        QuillRelay finished = Worn.finished();
        Check.same(true, finished.isFinished());
        Check.same(true, finished.protest(0, 1, QuillRelay.DROP));
        Check.same(false, finished.protest(1, 2, QuillRelay.DROP));
    }

    static void promise11OrderOfExceptions() {
        Refused.with(Refused.INDEX, Worn::started, relay -> relay.protest(3, 3, QuillRelay.LATE));
        Refused.with(Refused.INDEX, Worn::started, relay -> relay.protest(-1, -1, QuillRelay.LATE));
        Refused.with(Refused.INDEX, Worn::started, relay -> relay.protest(0, 3, 2));
        Refused.with(Refused.INDEX, Worn::started, relay -> relay.protest(-1, 0, -1));
        Refused.with(Refused.INDEX, Worn::prepared, relay -> relay.protest(0, 3, QuillRelay.LATE));
        Refused.with(Refused.INDEX, Worn::prepared, relay -> relay.protest(3, 0, QuillRelay.LATE));
        Refused.with(Refused.ARGUMENT, Worn::prepared, relay -> relay.protest(0, 0, QuillRelay.LATE));
        Refused.with(Refused.ARGUMENT, Worn::prepared, relay -> relay.protest(0, 1, 2));
        Refused.with(Refused.ARGUMENT, Worn::prepared, relay -> relay.protest(0, 1, -1));
    }

    /** "the foul is removed", the one of that kind and of that team only */
    static void promise11OnlyThatFoulIsRemoved() {
        for (int kind = 0; kind <= 1; kind++) {
            QuillRelay relay = Races.startedShort(3);
            relay.run(6);
            relay.drop(0, 1);
            relay.drop(1, 1);
            relay.run(200);
            relay.pass(0);
            relay.pass(1);
            Check.same(true, relay.protest(2, 0, kind));
            Check.same(false, relay.hasFoul(0, kind));
            Check.same(true, relay.hasFoul(0, 1 - kind));
            Check.same(true, relay.hasFoul(1, QuillRelay.LATE));
            Check.same(true, relay.hasFoul(1, QuillRelay.DROP));
        }
    }

    /** "Otherwise it is rejected": no foul comes or goes by it. */
    static void promise11RejectedProtestLeavesTheFouls() {
        QuillRelay relay = Worn.started();
        Check.same(false, relay.protest(1, 2, QuillRelay.DROP));
        Check.same(true, relay.hasFoul(1, QuillRelay.DROP));
        Check.same(false, relay.hasFoul(1, QuillRelay.LATE));
        Check.same(true, relay.hasFoul(2, QuillRelay.LATE));
        Check.same(false, relay.hasFoul(2, QuillRelay.DROP));
    }

    /** "the penalty of that team increases by 10 seconds", "the penalty of the protesting team increases by 5 seconds" */
    static void promise11PenaltiesAddUp() {
        QuillRelay relay = Races.startedShort(2);
        relay.protest(0, 1, QuillRelay.LATE);
        relay.protest(0, 1, QuillRelay.DROP);
        Check.same(10, relay.penaltyOf(0));
        relay.run(6);
        relay.drop(0, 1);
        relay.protest(1, 0, QuillRelay.DROP);
        Check.same(20, relay.penaltyOf(0));
        Check.same(0, relay.penaltyOf(1));
    }

    static void promise11PenaltyOfTheLongestUse() {
        QuillRelay relay = Races.started(2);
        for (int call = 1; call <= 508; call++) {
            relay.protest(0, 1, QuillRelay.LATE);
        }
        Check.same(2540, relay.penaltyOf(0));
        Check.same(0, relay.penaltyOf(1));
    }
}
