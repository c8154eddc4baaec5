import java.util.NoSuchElementException;

/** Promises 35 to 39. */
final class PredictionsTest {
    private interface Reach {
        int of(int team, int leg, int seconds);
    }

    private PredictionsTest() {
    }

    private static void checkReach(Reach reach) {
        int[][] secondsAndDue = {{0, 0}, {1, 60}, {9, 540}, {10, 600}, {11, 659}, {25, 1480}, {30, 1770}, {999, 22740}};
        for (int[] row : secondsAndDue) {
            Check.same(row[1], reach.of(0, 3, row[0]));
        }
        Check.same(10540, reach.of(1, 0, 999));
        Check.same(1550, reach.of(1, 0, 100));
        Check.same(1560, reach.of(1, 0, 101));
        Check.same(50040, reach.of(1, 3, 999));
    }

    private static QuillRelay withSlowAndFastRunner() {
        QuillRelay relay = Races.prepared(2);
        relay.setSpeed(1, 0, 20);
        relay.setSpeed(1, 3, 99);
        return relay;
    }

    static void promise35Reach() {
        QuillRelay relay = withSlowAndFastRunner();
        checkReach(relay::reach);
        relay.start();
        relay.run(30);
        relay.drop(0, 5);
        checkReach(relay::reach);
    }

    static void promise36ReachByStretches() {
        QuillRelay relay = withSlowAndFastRunner();
        checkReach(relay::reachByStretches);
        relay.start();
        relay.run(30);
        relay.drop(0, 5);
        checkReach(relay::reachByStretches);
    }

    static void promise36SameAsReach() {
        for (int speed = 20; speed <= 99; speed++) {
            QuillRelay relay = Races.prepared(1);
            relay.setSpeed(0, 2, speed);
            for (int seconds = 0; seconds <= 999; seconds += 7) {
                Check.same(relay.reach(0, 2, seconds), relay.reachByStretches(0, 2, seconds));
            }
        }
    }

    static void promise37SecondsToZone() {
        QuillRelay relay = Races.startedShort(2);
        for (int left = 6; left > 0; left--) {
            Check.same(left, relay.secondsToZone(0));
            relay.run(1);
        }
        Check.same(0, relay.secondsToZone(0));
        relay.pass(0);
        Check.same(8, relay.secondsToZone(0));
        Check.same(0, relay.secondsToZone(1));
        relay.run(100);
        Check.same(0, relay.secondsToZone(1));
    }

    static void promise37SecondsToZoneCountsStandingAndTiring() {
        QuillRelay relay = Races.started(1);
        Check.same(16, relay.secondsToZone(0));
        relay.run(12);
        Check.same(4, relay.secondsToZone(0));
        relay.drop(0, 20);
        relay.drop(0, 3);
        Check.same(27, relay.secondsToZone(0));
        relay.run(27);
        Check.same(954, relay.positionOf(0));
        relay.drop(0, 5);
        Check.same(0, relay.secondsToZone(0));
    }

    static void promise37SecondsToZoneOfTheSlowestRunner() {
        QuillRelay relay = Races.prepared(1);
        relay.setLength(4000);
        relay.setSpeed(0, 0, 20);
        relay.start();
        // 1550 in the first 100 seconds, then 10 in each
        Check.same(335, relay.secondsToZone(0));
    }

    static void promise38RefusalReason() {
        QuillRelay relay = Races.started(2);
        Check.fails(NoSuchElementException.class, () -> relay.refusalReason());
        Check.fails(IndexOutOfBoundsException.class, () -> relay.pass(2));
        Check.fails(NoSuchElementException.class, () -> relay.refusalReason());
        Check.fails(UnsupportedOperationException.class, () -> relay.pass(0));
        Check.same(QuillRelay.TOO_EARLY, relay.refusalReason());
        relay.drop(0, 1);
        Check.fails(UnsupportedOperationException.class, () -> relay.pass(0));
        Check.same(QuillRelay.DROPPED, relay.refusalReason());
    }

    static void promise38RefusalStaysAfterAGoodPassUndoAndRestore() {
        QuillRelay relay = Races.startedShort(1);
        relay.save();
        Check.fails(UnsupportedOperationException.class, () -> relay.pass(0));
        relay.run(6);
        relay.pass(0);
        Check.same(QuillRelay.TOO_EARLY, relay.refusalReason());
        relay.undo();
        Check.same(QuillRelay.TOO_EARLY, relay.refusalReason());
        relay.restore();
        Check.same(QuillRelay.TOO_EARLY, relay.refusalReason());
    }

    static void promise39RefusedTeam() {
        QuillRelay relay = Races.started(3);
        Check.fails(NoSuchElementException.class, () -> relay.refusedTeam());
        Check.fails(UnsupportedOperationException.class, () -> relay.pass(2));
        Check.same(2, relay.refusedTeam());
        Check.fails(UnsupportedOperationException.class, () -> relay.pass(0));
        Check.same(0, relay.refusedTeam());
        relay.withdraw(1);
        Check.fails(IllegalStateException.class, () -> relay.pass(1));
        Check.same(0, relay.refusedTeam());
    }
}
