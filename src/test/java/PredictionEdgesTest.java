/** The boundary cases that the document names for promises 35 to 39. */
final class PredictionEdgesTest {
    /** Speed, seconds and decimetres: the edges of the stretches, and where the pace comes to its least. */
    private static final int[][] DISTANCES = {{20, 0, 0}, {20, 1, 20}, {20, 10, 200}, {20, 11, 219}, {20, 99, 1539},
        {20, 100, 1550}, {20, 101, 1560}, {20, 110, 1650}, {20, 111, 1660}, {20, 999, 10540}, {60, 9, 540}, {60, 10, 600},
        {60, 11, 659}, {60, 20, 1190}, {60, 21, 1248}, {60, 998, 22730}, {60, 999, 22740}, {99, 889, 48939},
        {99, 890, 48950}, {99, 891, 48960}, {99, 900, 49050}, {99, 901, 49060}, {99, 999, 50040}};

    private PredictionEdgesTest() {
    }

    /** One of the two ways to predict a distance. */
    private interface Reach {
        int of(QuillRelay relay, int team, int leg, int seconds);
    }

    private static void checkDistances(Reach reach) {
        for (int[] row : DISTANCES) {
            QuillRelay relay = Races.prepared(1);
            relay.setSpeed(0, 2, row[0]);
            Check.same("speed " + row[0] + ", seconds " + row[1], row[2], reach.of(relay, 0, 2, row[1]));
        }
    }

    private static void checkTeams(Reach reach) {
        Refused.with(Refused.INDEX, QuillRelay::new, relay -> reach.of(relay, 0, 0, 5));
        Refused.with(Refused.INDEX, Worn::started, relay -> reach.of(relay, -1, 0, 5));
        Refused.with(Refused.INDEX, Worn::finished, relay -> reach.of(relay, 3, 0, 5));
        QuillRelay six = Races.prepared(6);
        Check.same(300, reach.of(six, 0, 0, 5));
        Check.same(300, reach.of(six, 5, 0, 5));
        Check.fails(Refused.INDEX, () -> reach.of(six, 6, 0, 5));
        for (int wrong : Refused.EXTREMES) {
            Check.fails(Refused.INDEX, () -> reach.of(six, wrong, 0, 5));
        }
    }

    private static void checkLegs(Reach reach) {
        Refused.with(Refused.INDEX, Worn::prepared, relay -> reach.of(relay, 0, -1, 5));
        Refused.with(Refused.INDEX, Worn::prepared, relay -> reach.of(relay, 0, 4, 5));
        QuillRelay relay = Races.prepared(1);
        Check.same(300, reach.of(relay, 0, 0, 5));
        Check.same(300, reach.of(relay, 0, 3, 5));
        for (int wrong : Refused.EXTREMES) {
            Check.fails(Refused.INDEX, () -> reach.of(relay, 0, wrong, 5));
        }
    }

    /** "number of seconds, 0 to 999" */
    private static void checkSeconds(Reach reach) {
        Refused.with(Refused.ARGUMENT, Worn::started, relay -> reach.of(relay, 0, 0, -1));
        Refused.with(Refused.ARGUMENT, Worn::started, relay -> reach.of(relay, 2, 3, 1000));
        QuillRelay relay = Races.prepared(1);
        Check.same(0, reach.of(relay, 0, 0, 0));
        Check.same(22740, reach.of(relay, 0, 0, 999));
        for (int wrong : Refused.EXTREMES) {
            Check.fails(Refused.ARGUMENT, () -> reach.of(relay, 0, 0, wrong));
        }
    }

    private static void checkOrderOfExceptions(Reach reach) {
        Refused.with(Refused.INDEX, Worn::started, relay -> reach.of(relay, 3, 0, 1000));
        Refused.with(Refused.INDEX, Worn::started, relay -> reach.of(relay, -1, 0, -1));
        Refused.with(Refused.INDEX, Worn::started, relay -> reach.of(relay, 0, 4, 1000));
        Refused.with(Refused.INDEX, Worn::started, relay -> reach.of(relay, 0, -1, -1));
    }

    /** "who runs freshly from the beginning of a second, without passing, standing or any end" */
    private static void checkFreshness(Reach reach) {
        for (QuillRelay relay : new QuillRelay[] {Worn.prepared(), Worn.started(), Worn.finished()}) {
            for (int team = 0; team < 3; team++) {
                Check.same(500, reach.of(relay, team, 0, 10));
                Check.same(549, reach.of(relay, team, 0, 11));
            }
        }
    }

    static void promise35Distances() {
        checkDistances(QuillRelay::reach);
    }

    static void promise35TeamNumbers() {
        checkTeams(QuillRelay::reach);
    }

    static void promise35Legs() {
        checkLegs(QuillRelay::reach);
    }

    static void promise35Seconds() {
        checkSeconds(QuillRelay::reach);
    }

    static void promise35OrderOfExceptions() {
        checkOrderOfExceptions(QuillRelay::reach);
    }

    static void promise35Freshness() {
        checkFreshness(QuillRelay::reach);
    }

    static void promise36Distances() {
        checkDistances(QuillRelay::reachByStretches);
    }

    static void promise36TeamNumbers() {
        checkTeams(QuillRelay::reachByStretches);
    }

    static void promise36Legs() {
        checkLegs(QuillRelay::reachByStretches);
    }

    static void promise36Seconds() {
        checkSeconds(QuillRelay::reachByStretches);
    }

    static void promise36OrderOfExceptions() {
        checkOrderOfExceptions(QuillRelay::reachByStretches);
    }

    static void promise36Freshness() {
        checkFreshness(QuillRelay::reachByStretches);
    }

    // ---- secondsToZone

    static void promise37TeamNumbers() {
        Refused.with(Refused.INDEX, QuillRelay::new, relay -> relay.secondsToZone(0));
        Refused.with(Refused.INDEX, Worn::started, relay -> relay.secondsToZone(-1));
        Refused.with(Refused.INDEX, Worn::started, relay -> relay.secondsToZone(3));
        QuillRelay six = Races.startedShort(6);
        Check.same(6, six.secondsToZone(0));
        Check.same(6, six.secondsToZone(5));
        Check.fails(Refused.INDEX, () -> six.secondsToZone(6));
        for (int wrong : Refused.EXTREMES) {
            Check.fails(Refused.INDEX, () -> six.secondsToZone(wrong));
        }
    }

    static void promise37RefusedWhenTheTeamIsNotRunning() {
        Refused.with(Refused.STATE, Worn::prepared, relay -> relay.secondsToZone(0));
        Refused.with(Refused.STATE, Worn::finished, relay -> relay.secondsToZone(2));
    }

    static void promise37RefusedOnTheLastLeg() {
        Refused.with(Refused.UNSUPPORTED, PredictionEdgesTest::onLastLeg, relay -> relay.secondsToZone(0));
        QuillRelay before = Zones.atTheBeginning(2);
        Check.same(0, before.secondsToZone(0));
        before.pass(0);
        Check.fails(Refused.UNSUPPORTED, () -> before.secondsToZone(0));
    }

    private static QuillRelay onLastLeg() {
        QuillRelay relay = Races.startedShort(2);
        Races.runToLastLeg(relay);
        return relay;
    }

    private static QuillRelay withdrawnOnLastLeg() {
        QuillRelay relay = onLastLeg();
        relay.withdraw(0);
        return relay;
    }

    static void promise37OrderOfExceptions() {
        Refused.with(Refused.INDEX, Worn::prepared, relay -> relay.secondsToZone(3));
        Refused.with(Refused.INDEX, Worn::finished, relay -> relay.secondsToZone(-1));
        Refused.with(Refused.STATE, Worn::finished, relay -> relay.secondsToZone(0));
        Refused.with(Refused.STATE, PredictionEdgesTest::withdrawnOnLastLeg, relay -> relay.secondsToZone(0));
    }

    /** "in the zone of its leg or behind it", "0 if it is there now" */
    static void promise37EdgesOfTheZoneOfEachLeg() {
        for (int leg = 0; leg < 3; leg++) {
            Check.same(1, Zones.oneBefore(leg).secondsToZone(0));
            Check.same(0, Zones.atTheBeginning(leg).secondsToZone(0));
            Check.same(0, Zones.atTheEnd(leg).secondsToZone(0));
            Check.same(0, Zones.oneBehind(leg).secondsToZone(0));
        }
    }

    /** Also where the runner stands for good, 300 decimetres behind the end of the leg. */
    static void promise37ZeroWhereTheRunnerStands() {
        QuillRelay relay = Races.started(1);
        relay.run(100);
        Check.same(1300, relay.positionOf(0));
        Check.same(0, relay.secondsToZone(0));
    }

    /** 300 are needed: 6 seconds at speed 50, and one more for the last decimetre with 301; so it is with 350 and 351. */
    static void promise37OneDecimetreMoreIsOneSecondMore() {
        int[][] lengthAndDue = {{400, 6}, {401, 7}, {450, 7}, {451, 8}};
        for (int[] row : lengthAndDue) {
            QuillRelay relay = Races.preparedShort(1);
            relay.setLength(row[0]);
            relay.start();
            Check.same("length " + row[0], row[1], relay.secondsToZone(0));
            relay.run(row[1] - 1);
            Check.same(1, relay.secondsToZone(0));
            Check.same(false, relay.isInZone(0));
            relay.run(1);
            Check.same(0, relay.secondsToZone(0));
            Check.same(true, relay.isInZone(0));
        }
    }

    /** "if nothing but seconds happens": the seconds of standing pass first, and do not tire. */
    static void promise37StandingIsAddedOneDecimetreBeforeTheZone() {
        QuillRelay relay = Zones.oneBefore(1);
        relay.drop(0, 20);
        Check.same(21, relay.secondsToZone(0));
        relay.run(20);
        Check.same(1, relay.secondsToZone(0));
        QuillRelay there = Zones.atTheBeginning(1);
        there.drop(0, 20);
        Check.same(0, there.secondsToZone(0));
    }

    /** After 600 decimetres in 10 seconds, 590 are 10 seconds at 59, and 591 are 11; a fresh runner would need 10. */
    static void promise37TiringGoesOnFromTheSecondOfTheRunner() {
        Check.same(10, Races.ranBy(1290, new int[] {60, 10}).secondsToZone(0));
        Check.same(11, Races.ranBy(1291, new int[] {60, 10}).secondsToZone(0));
    }

    // ---- the last refusal

    static void promise38RefusedWhenNoPassWasRefused() {
        Refused.with(Refused.NO_ELEMENT, QuillRelay::new, relay -> relay.refusalReason());
        Refused.with(Refused.NO_ELEMENT, PredictionEdgesTest::withOtherFailures, relay -> relay.refusalReason());
    }

    static void promise39RefusedWhenNoPassWasRefused() {
        Refused.with(Refused.NO_ELEMENT, QuillRelay::new, relay -> relay.refusedTeam());
        Refused.with(Refused.NO_ELEMENT, PredictionEdgesTest::withOtherFailures, relay -> relay.refusedTeam());
    }

    /** Passes that fail for another reason than a refusal, alone and in a program, and calls of other methods that fail. */
    private static QuillRelay withOtherFailures() {
        QuillRelay relay = Races.preparedShort(2);
        Check.fails(Refused.STATE, () -> relay.pass(0));
        relay.start();
        Check.fails(Refused.INDEX, () -> relay.pass(2));
        Check.fails(Refused.STATE, () -> Races.execute(relay, "pass 2"));
        Races.runToLastLeg(relay);
        Check.fails(Refused.UNSUPPORTED, () -> relay.secondsToZone(0));
        relay.withdraw(0);
        Check.fails(Refused.STATE, () -> relay.pass(0));
        Check.fails(Refused.STATE, () -> Races.execute(relay, "pass 0"));
        return relay;
    }

    static void promise38EachReason() {
        QuillRelay relay = Races.startedShort(1);
        Check.fails(Refused.UNSUPPORTED, () -> relay.pass(0));
        Check.same(3, relay.refusalReason());
        relay.drop(0, 1);
        Check.fails(Refused.UNSUPPORTED, () -> relay.pass(0));
        Check.same(1, relay.refusalReason());
        relay.run(1);
        Races.runToLastLeg(relay);
        Check.fails(Refused.UNSUPPORTED, () -> relay.pass(0));
        Check.same(2, relay.refusalReason());
    }

    static void promise39FirstAndLastTeam() {
        QuillRelay relay = Races.started(6);
        Check.fails(Refused.UNSUPPORTED, () -> relay.pass(5));
        Check.same(5, relay.refusedTeam());
        Check.fails(Refused.UNSUPPORTED, () -> relay.pass(0));
        Check.same(0, relay.refusedTeam());
    }
}
