import java.util.ArrayList;
import java.util.List;

/** Promises 46 to 48. */
final class UndoTest {
    private UndoTest() {
    }

    /** Makes the change, undoes it and checks that the state is as it was. */
    private static void checkUndone(QuillRelay relay, Runnable change) {
        String state = Races.state(relay);
        change.run();
        Check.same(false, state.equals(Races.state(relay)));
        relay.undo();
        Check.same(state, Races.state(relay));
    }

    static void promise46PreparingIsUndone() {
        QuillRelay relay = Races.prepared(2);
        checkUndone(relay, () -> relay.addTeam());
        checkUndone(relay, () -> relay.setSpeed(1, 2, 33));
        checkUndone(relay, () -> relay.setLength(444));
        checkUndone(relay, () -> relay.drawLanes(2));
        checkUndone(relay, () -> relay.start());
    }

    static void promise46RacingIsUndone() {
        QuillRelay relay = Races.startedShort(2);
        checkUndone(relay, () -> relay.run(3));
        relay.run(6);
        checkUndone(relay, () -> relay.pass(1));
        checkUndone(relay, () -> relay.drop(0, 4));
        checkUndone(relay, () -> relay.withdraw(1));
        relay.drop(0, 1);
        checkUndone(relay, () -> relay.protest(1, 0, QuillRelay.DROP));
        checkUndone(relay, () -> relay.protest(1, 0, QuillRelay.LATE));
        relay.run(200);
        checkUndone(relay, () -> relay.pass(1));
    }

    static void promise46FinishAndTiringAreUndone() {
        QuillRelay relay = Races.startedShort(1);
        Races.runToLastLeg(relay);
        relay.run(9);
        checkUndone(relay, () -> relay.run(20));
        relay.run(1);
        Check.same(32, relay.timeOf(0));
        QuillRelay tired = Races.started(1);
        tired.run(9);
        tired.run(8);
        tired.undo();
        tired.run(2);
        Check.same(659, tired.positionOf(0));
    }

    static void promise46UndonePassDoesNotCountForTheNextOne() {
        QuillRelay relay = Races.startedShort(1);
        relay.run(6);
        relay.pass(0);
        relay.undo();
        relay.run(1);
        Check.same(7, relay.pass(0));
    }

    static void promise46ProgramIsOneModification() {
        QuillRelay relay = Races.prepared(2);
        checkUndone(relay, () -> Races.execute(relay, "draw 2;start;run 16;pass 0;quit 1"));
        Check.same(0, relay.start() - 2);
        Check.same(2, relay.undo());
    }

    static void promise46ReturnsWhatCanStillBeUndone() {
        QuillRelay relay = Races.prepared(3);
        Check.same(2, relay.undo());
        Check.same(1, relay.undo());
        Check.same(0, relay.undo());
        Check.fails(IllegalStateException.class, () -> relay.undo());
        Check.same(0, relay.teamCount());
    }

    static void promise46OnlyTheLastEight() {
        QuillRelay relay = Races.started(1);
        List<String> states = new ArrayList<>();
        for (int second = 0; second < 20; second++) {
            states.add(Races.state(relay));
            relay.run(1);
        }
        for (int left = 7; left >= 0; left--) {
            Check.same(left, relay.undo());
            Check.same(states.get(12 + left), Races.state(relay));
        }
        Check.fails(IllegalStateException.class, () -> relay.undo());
        Check.same(12, relay.clock());
    }

    static void promise46NewModificationsFollowTheUndoneOnes() {
        QuillRelay relay = Races.started(1);
        for (int second = 0; second < 10; second++) {
            relay.run(1);
        }
        relay.undo();
        relay.undo();
        Check.same(5, relay.undo());
        relay.run(20);
        Check.same(27, relay.clock());
        Check.same(5, relay.undo());
        Check.same(7, relay.clock());
        for (int left = 4; left >= 0; left--) {
            Check.same(left, relay.undo());
        }
        Check.same(2, relay.clock());
    }

    static void promise46CallsThatChangeNothingAreNoModifications() {
        QuillRelay relay = Races.prepared(1);
        Check.fails(IllegalStateException.class, () -> relay.run(1));
        Check.fails(IllegalArgumentException.class, () -> relay.setLength(1));
        Check.fails(IllegalArgumentException.class, () -> relay.execute());
        relay.start();
        Check.fails(UnsupportedOperationException.class, () -> relay.pass(0));
        Races.type(relay, "run 5;pass 0");
        Check.fails(IllegalStateException.class, () -> relay.execute());
        relay.type('x');
        relay.writeBanner(0);
        relay.save();
        Check.same(1, relay.undo());
        Check.same(0, relay.undo());
        Check.same(0, relay.teamCount());
    }

    static void promise46FailedProgramLosesNoModification() {
        QuillRelay relay = Races.started(1);
        for (int second = 0; second < 8; second++) {
            relay.run(1);
        }
        Races.type(relay, "run 5;run 5;run 0");
        Check.fails(IllegalStateException.class, () -> relay.execute());
        for (int left = 7; left >= 0; left--) {
            Check.same(left, relay.undo());
        }
        Check.same(0, relay.clock());
    }

    static void promise46ModificationThatSetsTheSameValueCounts() {
        QuillRelay relay = Races.prepared(1);
        relay.setLength(1000);
        relay.setSpeed(0, 0, 60);
        Check.same(2, relay.undo());
    }

    static void promise46UndoLeavesTheBufferAlone() {
        QuillRelay relay = Races.prepared(1);
        Races.type(relay, "star");
        relay.undo();
        Check.same(5, relay.type('t'));
    }

    static void promise46UndoLeavesTheSnapshotAlone() {
        QuillRelay relay = Races.started(1);
        relay.run(3);
        relay.save();
        relay.undo();
        Check.same(0, relay.clock());
        Check.same(3, relay.restore());
        Check.same(180, relay.positionOf(0));
    }

    static void promise47SaveReturnsTheClock() {
        QuillRelay relay = Races.prepared(1);
        Check.same(0, relay.save());
        relay.start();
        relay.run(17);
        Check.same(17, relay.save());
    }

    static void promise47SaveChangesNothingAndReplacesTheEarlierSnapshot() {
        QuillRelay relay = Races.started(2);
        relay.save();
        relay.run(5);
        relay.drop(1, 4);
        String state = Races.state(relay);
        relay.save();
        Check.same(state, Races.state(relay));
        relay.run(30);
        relay.restore();
        Check.same(state, Races.state(relay));
    }

    static void promise47LaterCallsDoNotReachTheSnapshot() {
        QuillRelay relay = Races.preparedShort(2);
        String state = Races.state(relay);
        relay.save();
        relay.setSpeed(0, 0, 99);
        relay.drawLanes(2);
        relay.addTeam();
        relay.start();
        relay.run(200);
        relay.pass(0);
        relay.protest(0, 1, QuillRelay.LATE);
        relay.restore();
        Check.same(state, Races.state(relay));
    }

    static void promise48RestoreKeepsTheSnapshot() {
        QuillRelay relay = Races.started(2);
        relay.run(8);
        relay.save();
        String state = Races.state(relay);
        for (int round = 0; round < 3; round++) {
            relay.run(50);
            relay.withdraw(round % 2);
            Check.same(8, relay.restore());
            Check.same(state, Races.state(relay));
        }
    }

    static void promise48RestoreBringsBackTheTimes() {
        QuillRelay relay = Races.startedShort(1);
        Races.runToLastLeg(relay);
        relay.run(10);
        relay.save();
        relay.undo();
        relay.drop(0, 5);
        relay.run(20);
        Check.same(37, relay.timeOf(0));
        Check.same(32, relay.restore());
        Check.same(32, relay.timeOf(0));
        Check.same(10, relay.splitOf(0, 3));
    }

    static void promise48AfterwardsNothingCanBeUndone() {
        QuillRelay relay = Races.started(1);
        relay.save();
        relay.run(1);
        relay.restore();
        Check.fails(IllegalStateException.class, () -> relay.undo());
        relay.run(4);
        relay.run(4);
        Check.same(1, relay.undo());
        Check.same(4, relay.clock());
        Check.same(0, relay.undo());
        Check.fails(IllegalStateException.class, () -> relay.undo());
        Check.same(0, relay.clock());
    }

    static void promise48RestoreLeavesTheBufferAlone() {
        QuillRelay relay = Races.prepared(1);
        Races.type(relay, "st");
        relay.save();
        Races.type(relay, "ar");
        relay.restore();
        Check.same(5, relay.type('t'));
        Check.same(1, relay.execute());
        Check.same(true, relay.isStarted());
    }

    static void promise48Refusal() {
        QuillRelay relay = Races.started(1);
        relay.run(2);
        Check.fails(IllegalStateException.class, () -> relay.restore());
        Check.same(2, relay.clock());
        Check.same(2, relay.undo());
    }
}
