/** Promises 7 to 11, with the terms on running, dropped quills, passing, fouls and protests. */
final class RacingTest {
    private RacingTest() {
    }

    static void promise7RunnerStandsBehindTheLeg() {
        QuillRelay relay = Races.started(1);
        relay.run(21);
        Check.same(1248, relay.positionOf(0));
        relay.run(1);
        Check.same(1300, relay.positionOf(0));
        relay.run(200);
        Check.same(1300, relay.positionOf(0));
        relay.pass(0);
        relay.run(200);
        Check.same(2300, relay.positionOf(0));
    }

    static void promise7LastRunnerIsNotStopped() {
        QuillRelay relay = Races.prepared(1);
        relay.setLength(400);
        Races.setSpeeds(relay, 0, 99);
        relay.start();
        relay.run(4);
        relay.pass(0);
        relay.run(4);
        relay.pass(0);
        relay.run(4);
        relay.pass(0);
        Check.same(1188, relay.positionOf(0));
        Check.same(1, relay.run(200));
        Check.same(1683, relay.positionOf(0));
        Check.same(17, relay.timeOf(0));
    }

    static void promise7ReturnsTheTeamsThatFinish() {
        QuillRelay relay = Races.startedShort(3);
        Races.runToLastLeg(relay);
        relay.drop(2, 2);
        Check.same(0, relay.run(9));
        Check.same(2, relay.run(1));
        Check.same(0, relay.run(1));
        Check.same(1, relay.run(1));
        Check.same(0, relay.run(200));
    }

    static void promise7TeamFinishesAtFourTimesTheLength() {
        QuillRelay relay = Races.startedShort(1);
        Races.runToLastLeg(relay);
        Check.same(0, relay.run(9));
        Check.same(1550, relay.positionOf(0));
        Check.same(1, relay.run(1));
        Check.same(1600, relay.positionOf(0));
        Check.same(32, relay.timeOf(0));
    }

    static void promise7FinishedAndWithdrawnTeamsStayAndTheClockGoesOn() {
        QuillRelay relay = Races.finishedShort();
        Check.same(0, relay.run(7));
        Check.same(1600, relay.positionOf(0));
        Check.same(39, relay.clock());
        QuillRelay withdrawn = Races.started(2);
        withdrawn.run(3);
        withdrawn.drop(0, 5);
        withdrawn.withdraw(0);
        withdrawn.run(3);
        Check.same(180, withdrawn.positionOf(0));
        Check.same(5, withdrawn.standingOf(0));
        Check.same(360, withdrawn.positionOf(1));
    }

    static void promise8PassReturnsTheSecondsSinceTheLastOne() {
        QuillRelay relay = Races.startedShort(2);
        relay.run(6);
        Check.same(6, relay.pass(0));
        relay.run(1);
        Check.same(7, relay.pass(1));
        relay.run(8);
        Check.same(9, relay.pass(0));
        Check.same(8, relay.pass(1));
        Check.same(2, relay.legOf(0));
        Check.same(2, relay.legOf(1));
    }

    static void promise8TwoPassesInTheSameSecond() {
        QuillRelay relay = Races.startedShort(1);
        relay.run(200);
        Check.same(700, relay.positionOf(0));
        Check.same(200, relay.pass(0));
        Check.same(0, relay.pass(0));
        Check.same(2, relay.legOf(0));
        refused(relay, 0, QuillRelay.TOO_EARLY);
    }

    static void promise8NewRunnerIsFreshAndHasItsOwnSpeed() {
        QuillRelay relay = Races.prepared(1);
        relay.setSpeed(0, 1, 80);
        relay.start();
        relay.run(16);
        Check.same(954, relay.positionOf(0));
        relay.pass(0);
        Check.same(954, relay.positionOf(0));
        relay.run(10);
        Check.same(1754, relay.positionOf(0));
        relay.run(1);
        Check.same(1833, relay.positionOf(0));
    }

    static void promise8ReasonsToRefuse() {
        QuillRelay relay = Races.startedShort(2);
        relay.drop(1, 1);
        refused(relay, 1, QuillRelay.DROPPED);
        refused(relay, 0, QuillRelay.TOO_EARLY);
        relay.run(1);
        relay.withdraw(1);
        relay.run(5);
        relay.pass(0);
        relay.run(8);
        relay.pass(0);
        relay.run(8);
        relay.pass(0);
        refused(relay, 0, QuillRelay.LAST_LEG);
        relay.drop(0, 3);
        refused(relay, 0, QuillRelay.DROPPED);
        relay.run(3);
        refused(relay, 0, QuillRelay.LAST_LEG);
        Check.same(3, relay.legOf(0));
    }

    private static void refused(QuillRelay relay, int team, int reason) {
        Check.fails(UnsupportedOperationException.class, () -> relay.pass(team));
        Check.same(reason, relay.refusalReason());
        Check.same(team, relay.refusedTeam());
    }

    static void promise8RefusedPassChangesNothingElse() {
        QuillRelay relay = Races.started(2);
        relay.run(3);
        String state = Races.state(relay);
        refused(relay, 1, QuillRelay.TOO_EARLY);
        Check.same(state, Races.state(relay));
    }

    static void promise9DroppedSecondsAddUpAndDoNotTire() {
        QuillRelay relay = Races.started(1);
        relay.run(5);
        Check.same(20, relay.drop(0, 20));
        Check.same(21, relay.drop(0, 1));
        relay.run(20);
        Check.same(1, relay.standingOf(0));
        Check.same(300, relay.positionOf(0));
        Check.same(3, relay.drop(0, 2));
        relay.run(3);
        Check.same(300, relay.positionOf(0));
        relay.run(5);
        Check.same(600, relay.positionOf(0));
        relay.run(1);
        Check.same(659, relay.positionOf(0));
    }

    static void promise9DropOfTheLastRunnerIsNoFoul() {
        QuillRelay relay = Races.startedShort(1);
        Races.runToLastLeg(relay);
        for (int second = 0; second < 9; second++) {
            relay.run(1);
            relay.drop(0, 1);
            relay.run(1);
        }
        Check.same(false, relay.hasFoul(0, QuillRelay.DROP));
    }

    static void promise10WithdrawReturnsTheTeamsStillRunning() {
        QuillRelay relay = Races.started(3);
        relay.run(2);
        relay.drop(1, 4);
        Check.same(2, relay.withdraw(1));
        Check.same(false, relay.isRunning(1));
        Check.same(120, relay.positionOf(1));
        Check.same(4, relay.standingOf(1));
        Check.same(1, relay.withdraw(0));
        Check.same(0, relay.withdraw(2));
        Check.same(true, relay.isFinished());
    }

    private static QuillRelay withBothFouls() {
        QuillRelay relay = Races.startedShort(3);
        relay.run(6);
        relay.drop(0, 1);
        relay.run(200);
        relay.pass(0);
        return relay;
    }

    static void promise11UpheldProtestRemovesTheFoul() {
        QuillRelay relay = withBothFouls();
        Check.same(true, relay.protest(1, 0, QuillRelay.LATE));
        Check.same(false, relay.hasFoul(0, QuillRelay.LATE));
        Check.same(true, relay.hasFoul(0, QuillRelay.DROP));
        Check.same(10, relay.penaltyOf(0));
        Check.same(0, relay.penaltyOf(1));
        Check.same(true, relay.protest(2, 0, QuillRelay.DROP));
        Check.same(false, relay.hasFoul(0, QuillRelay.DROP));
        Check.same(20, relay.penaltyOf(0));
    }

    static void promise11RejectedProtestCostsFiveSeconds() {
        QuillRelay relay = withBothFouls();
        Check.same(false, relay.protest(0, 1, QuillRelay.LATE));
        Check.same(false, relay.protest(0, 2, QuillRelay.DROP));
        Check.same(10, relay.penaltyOf(0));
        Check.same(0, relay.penaltyOf(1));
        relay.protest(1, 0, QuillRelay.DROP);
        Check.same(false, relay.protest(2, 0, QuillRelay.DROP));
        Check.same(5, relay.penaltyOf(2));
        Check.same(20, relay.penaltyOf(0));
    }

    static void promise11FoulIsHadOnceAndCanBeCommittedAgain() {
        QuillRelay relay = withBothFouls();
        relay.pass(0);
        Check.same(true, relay.protest(1, 0, QuillRelay.LATE));
        Check.same(false, relay.protest(1, 0, QuillRelay.LATE));
        relay.run(200);
        relay.pass(0);
        Check.same(true, relay.protest(1, 0, QuillRelay.LATE));
        Check.same(20, relay.penaltyOf(0));
    }

    static void promise11TeamsThatDoNotRunCanProtest() {
        QuillRelay relay = withBothFouls();
        relay.withdraw(0);
        relay.withdraw(1);
        Check.same(true, relay.protest(1, 0, QuillRelay.DROP));
        relay.withdraw(2);
        Check.same(true, relay.protest(2, 0, QuillRelay.LATE));
        Check.same(false, relay.protest(1, 2, QuillRelay.LATE));
        Check.same(5, relay.penaltyOf(1));
    }
}
