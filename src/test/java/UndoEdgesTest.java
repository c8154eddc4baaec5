import java.util.ArrayList;
import java.util.EnumSet;
import java.util.List;
import java.util.function.Consumer;
import java.util.function.Supplier;

/** The boundary cases that the document names for promises 46 to 48, with the terms on undo. */
final class UndoEdgesTest {
    /** "The buffer, the error position, the failed command, the last refusal and the banner" */
    private static final EnumSet<Probe> KEPT = EnumSet.of(Probe.BUFFER_LENGTH, Probe.ERROR_POSITION, Probe.FAILED_COMMAND,
            Probe.REFUSAL, Probe.BANNER);

    private UndoEdgesTest() {
    }

    // ---- undo

    static void promise46RefusedWhenThereIsNone() {
        Refused.with(Refused.STATE, QuillRelay::new, relay -> relay.undo());
        Refused.with(Refused.STATE, UndoEdgesTest::restored, relay -> relay.undo());
        Refused.with(Refused.STATE, () -> undone(Worn.started(), 8), relay -> relay.undo());
        Refused.with(Refused.STATE, () -> undone(Races.prepared(1), 1), relay -> relay.undo());
    }

    private static QuillRelay restored() {
        QuillRelay relay = Worn.started();
        relay.restore();
        return relay;
    }

    private static QuillRelay undone(QuillRelay relay, int times) {
        for (int left = times - 1; left >= 0; left--) {
            Check.same(left, relay.undo());
        }
        return relay;
    }

    /** "The last 8 of them can be undone.": with fewer all of them, with 8 all, with 9 the last 8. */
    static void promise46SevenEightAndNine() {
        for (int modifications = 1; modifications <= 6; modifications++) {
            undone(Races.prepared(modifications), modifications);
        }
        int[][] secondsAndUndone = {{4, 6}, {5, 7}, {6, 8}, {7, 8}, {8, 8}, {30, 8}};
        for (int[] row : secondsAndUndone) {
            QuillRelay relay = Races.started(1);
            for (int second = 0; second < row[0]; second++) {
                relay.run(1);
            }
            undone(relay, row[1]);
            Check.fails(Refused.STATE, () -> relay.undo());
            Check.same(Math.max(0, row[0] - 8), relay.clock());
        }
    }

    /** Whatever is undone and done again, undoing leads back through the states in which the modifications were made. */
    static void promise46UndoneAndDoneAgain() {
        for (int back = 1; back <= 8; back++) {
            QuillRelay relay = Races.started(1);
            List<String> states = new ArrayList<>();
            run(relay, states, 11);
            for (int round = 0; round < 5; round++) {
                goBack(relay, states, back);
                run(relay, states, back);
            }
            goBack(relay, states, 8);
            Check.fails(Refused.STATE, () -> relay.undo());
        }
    }

    private static void run(QuillRelay relay, List<String> states, int times) {
        for (int call = 1; call <= times; call++) {
            states.add(Races.shortState(relay));
            relay.run(call);
        }
    }

    private static void goBack(QuillRelay relay, List<String> states, int times) {
        for (int call = 0; call < times; call++) {
            relay.undo();
            Check.same(states.remove(states.size() - 1), Races.shortState(relay));
        }
    }

    /** The call must be one modification, and undoing it must lead back to an object as it was. */
    private static void isModification(Supplier<QuillRelay> maker, Consumer<QuillRelay> call) {
        int before = undoable(maker.get());
        QuillRelay relay = maker.get();
        call.accept(relay);
        Check.same(before, relay.undo());
        for (Probe probe : EnumSet.of(Probe.STATE, Probe.UNDOING, Probe.SNAPSHOT, Probe.FUTURE)) {
            QuillRelay called = maker.get();
            call.accept(called);
            called.undo();
            Check.same(probe.name(), probe.ask(maker.get()), probe.ask(called));
        }
    }

    private static void isNoModification(Supplier<QuillRelay> maker, Consumer<QuillRelay> call) {
        int before = undoable(maker.get());
        QuillRelay relay = maker.get();
        call.accept(relay);
        Check.same(before, undoable(relay));
    }

    private static int undoable(QuillRelay relay) {
        int count = 0;
        while (!Check.outcome(() -> relay.undo()).startsWith("throws")) {
            count++;
        }
        return count;
    }

    /** Less than 8 modifications, so that one more can be counted. */
    private static QuillRelay fewPreparing() {
        QuillRelay relay = Races.prepared(3);
        relay.save();
        relay.drawLanes(7);
        return relay;
    }

    /** Team 0 is in the zone and has dropped its quill there, the others run as well; "run 3" is in the buffer. */
    private static QuillRelay fewRacing() {
        QuillRelay relay = Races.prepared(3);
        relay.start();
        relay.save();
        relay.run(16);
        relay.drop(0, 1);
        Races.type(relay, "run 3");
        return relay;
    }

    static void promise46EachPreparingCallIsOneModification() {
        isModification(UndoEdgesTest::fewPreparing, relay -> relay.addTeam());
        isModification(UndoEdgesTest::fewPreparing, relay -> relay.setSpeed(1, 2, 99));
        isModification(UndoEdgesTest::fewPreparing, relay -> relay.setLength(400));
        isModification(UndoEdgesTest::fewPreparing, relay -> relay.drawLanes(2));
        isModification(UndoEdgesTest::fewPreparing, relay -> relay.start());
        isModification(QuillRelay::new, relay -> relay.addTeam());
        isModification(QuillRelay::new, relay -> relay.setLength(400));
    }

    static void promise46EachRacingCallIsOneModification() {
        isModification(UndoEdgesTest::fewRacing, relay -> relay.run(1));
        isModification(UndoEdgesTest::fewRacing, relay -> relay.run(200));
        isModification(UndoEdgesTest::fewRacing, relay -> relay.pass(1));
        isModification(UndoEdgesTest::fewRacing, relay -> relay.drop(1, 20));
        isModification(UndoEdgesTest::fewRacing, relay -> relay.drop(0, 1));
        isModification(UndoEdgesTest::fewRacing, relay -> relay.withdraw(2));
        isModification(UndoEdgesTest::fewRacing, relay -> relay.execute());
    }

    /** "a rejected protest is successful" */
    static void promise46ProtestIsOneModificationUpheldOrRejected() {
        isModification(UndoEdgesTest::fewRacing, relay -> Check.same(true, relay.protest(1, 0, QuillRelay.DROP)));
        isModification(UndoEdgesTest::fewRacing, relay -> Check.same(false, relay.protest(1, 0, QuillRelay.LATE)));
    }

    /** A program of many commands is one modification, and it does not push out the seven before it. */
    static void promise46LongProgramIsOneModification() {
        isModification(UndoEdgesTest::fewPreparing, relay ->
                Races.execute(relay, "draw 5;speed 0 0 99;start;run 9;drop 0 1;quit 1;protest 01l"));
        QuillRelay relay = Races.started(1);
        for (int second = 0; second < 7; second++) {
            relay.run(1);
        }
        Check.same(10, Races.execute(relay, "run 1;run 1;run 1;run 1;run 1;run 1;run 1;run 1;run 1;run 01"));
        Check.same(7, relay.undo());
        Check.same(7, relay.clock());
        undone(relay, 7);
        Check.same(0, relay.clock());
    }

    /** A successful call that changes nothing that can be asked for is a modification all the same. */
    static void promise46CallsThatChangeNothingAreModifications() {
        isModification(UndoEdgesTest::fewPreparing, relay -> relay.setSpeed(0, 0, 60));
        isModification(UndoEdgesTest::fewPreparing, relay -> relay.setLength(1000));
        isModification(UndoEdgesTest::fewPreparing, relay -> relay.drawLanes(7));
    }

    /** "A method that throws an exception changes nothing", also not what can be undone. */
    static void promise46FailedCallsAreNoModifications() {
        isNoModification(UndoEdgesTest::fewRacing, relay -> Check.fails(Refused.UNSUPPORTED, () -> relay.pass(0)));
        isNoModification(UndoEdgesTest::fewRacing, relay -> Check.fails(Refused.STATE, () -> relay.start()));
        isNoModification(UndoEdgesTest::fewRacing, relay -> Check.fails(Refused.ARGUMENT, () -> relay.run(0)));
        isNoModification(UndoEdgesTest::fewRacing, relay -> Check.fails(Refused.ARGUMENT, () -> Races.execute(relay, ";")));
        isNoModification(UndoEdgesTest::fewRacing, relay ->
                Check.fails(Refused.STATE, () -> Races.execute(relay, ";run 0")));
    }

    static void promise46OtherCallsAreNoModifications() {
        isNoModification(UndoEdgesTest::fewRacing, relay -> Races.state(relay));
        isNoModification(UndoEdgesTest::fewRacing, relay -> relay.writeBanner(0));
        isNoModification(UndoEdgesTest::fewRacing, relay -> relay.type('x'));
        isNoModification(UndoEdgesTest::fewRacing, relay -> relay.save());
        isNoModification(UndoEdgesTest::fewRacing, relay -> relay.secondsToZone(1));
    }

    /** "are not affected by undo": not by one call, and not by all that are possible. */
    static void promise46WhatUndoDoesNotAffect() {
        for (Probe probe : KEPT) {
            Check.same(probe.name(), probe.ask(Worn.started()), probe.ask(undone(Worn.started(), 8)));
            Check.same(probe.name(), probe.ask(Worn.prepared()), probe.ask(undone(Worn.prepared(), 8)));
            Check.same(probe.name(), probe.ask(Worn.finished()), probe.ask(undone(Worn.finished(), 8)));
        }
    }

    /** What was stored since the modification stays as well: all five of them are younger than the run that is undone. */
    static void promise46YoungerRecordsStay() {
        QuillRelay relay = Races.started(2);
        relay.run(2);
        keepRecords(relay);
        relay.undo();
        checkRecords(relay);
    }

    private static void keepRecords(QuillRelay relay) {
        Check.fails(Refused.UNSUPPORTED, () -> relay.pass(1));
        Check.fails(Refused.ARGUMENT, () -> Races.execute(relay, "run"));
        Check.fails(Refused.STATE, () -> Races.execute(relay, "run 1;run 0"));
        relay.writeBanner(1);
        Races.type(relay, "run 5");
    }

    private static void checkRecords(QuillRelay relay) {
        Check.same(QuillRelay.TOO_EARLY, relay.refusalReason());
        Check.same(1, relay.refusedTeam());
        Check.same(3, relay.errorPosition());
        Check.same(1, relay.failedCommand());
        Check.same("L2 r0 120", Races.bannerOfLength(relay, 9));
        Check.fails(Refused.INDEX, () -> relay.bannerAt(9));
        int clock = relay.clock();
        Check.same(1, relay.execute());
        Check.same(clock + 5, relay.clock());
    }

    /** The program that was executed does not come back into the buffer. */
    static void promise46UndoneProgramIsNotInTheBuffer() {
        QuillRelay relay = Races.started(1);
        Races.execute(relay, "run 5");
        relay.undo();
        Check.same(1, relay.type('r'));
    }

    static void promise46StartAndFinishAreUndone() {
        QuillRelay relay = Races.preparedShort(1);
        relay.start();
        relay.undo();
        Check.same(false, relay.isStarted());
        Check.same(0, relay.runningCount());
        Check.same(1, relay.addTeam());
        QuillRelay finished = Races.finishedShort();
        finished.undo();
        Check.same(false, finished.isFinished());
        Check.same(true, finished.isRunning(0));
        Check.fails(Refused.NO_ELEMENT, () -> finished.timeOf(0));
        Check.same(1, finished.run(10));
    }

    // ---- save and restore

    /** "Returns the clock.": 0 without teams, and the clock of the race in each state of it */
    static void promise47ClockInEachState() {
        Check.same(0, new QuillRelay().save());
        Check.same(0, Worn.prepared().save());
        Check.same(16, Worn.started().save());
        QuillRelay finished = Worn.finished();
        Check.same(finished.clock(), finished.save());
    }

    /** "Saves the state as a snapshot": nothing else is changed by it, also not what can be undone. */
    static void promise47SaveChangesNothingElse() {
        for (Probe probe : EnumSet.complementOf(EnumSet.of(Probe.SNAPSHOT))) {
            QuillRelay saved = Worn.started();
            saved.save();
            Check.same(probe.name(), probe.ask(Worn.started()), probe.ask(saved));
        }
    }

    /** "which replaces an earlier one" */
    static void promise47LaterSnapshotReplacesTheEarlierOne() {
        QuillRelay relay = Worn.finished();
        relay.save();
        relay.run(9);
        relay.save();
        int clock = relay.clock();
        relay.run(9);
        Check.same(clock, relay.restore());
        Check.same(clock, relay.restore());
        QuillRelay earlier = Races.started(1);
        earlier.run(9);
        earlier.save();
        earlier.undo();
        earlier.save();
        earlier.run(5);
        Check.same(0, earlier.restore());
        Check.same(0, earlier.positionOf(0));
    }

    /** A snapshot of an object without teams is one as well. */
    static void promise47EmptySnapshot() {
        QuillRelay relay = new QuillRelay();
        relay.save();
        relay.addTeam();
        relay.setLength(400);
        relay.start();
        relay.run(200);
        Check.same(0, relay.restore());
        Check.same("0 0 false false 0 1000", Races.state(relay));
        Check.same(0, relay.addTeam());
        Check.same("1 0 false false 0 1000\n1 0 0 false 0 0 false false 0 0 60/- 60/- 60/- 60/- -", Races.state(relay));
    }

    static void promise48RefusedWithoutSnapshot() {
        Refused.with(Refused.STATE, QuillRelay::new, relay -> relay.restore());
        Refused.with(Refused.STATE, UndoEdgesTest::withoutSnapshot, relay -> relay.restore());
    }

    private static QuillRelay withoutSnapshot() {
        QuillRelay relay = Races.startedShort(2);
        relay.run(6);
        relay.drop(0, 2);
        relay.writeBanner(0);
        Races.type(relay, "run 8");
        return relay;
    }

    /** "Afterwards nothing can be undone.": after 8 modifications, after none since the snapshot, and after a second one. */
    static void promise48AfterwardsNothingCanBeUndone() {
        QuillRelay relay = Worn.started();
        Check.same(14, relay.restore());
        Check.fails(Refused.STATE, () -> relay.undo());
        Check.same(14, relay.restore());
        Check.fails(Refused.STATE, () -> relay.undo());
        QuillRelay atOnce = Races.started(1);
        atOnce.save();
        atOnce.restore();
        Check.fails(Refused.STATE, () -> atOnce.undo());
    }

    /** The list of what can be undone is filled anew from the restored state on, up to 8. */
    static void promise48NewModificationsCanBeUndone() {
        for (int modifications = 1; modifications <= 10; modifications++) {
            QuillRelay relay = Worn.started();
            relay.restore();
            for (int second = 0; second < modifications; second++) {
                relay.run(1);
            }
            undone(relay, Math.min(8, modifications));
            Check.fails(Refused.STATE, () -> relay.undo());
            Check.same(14 + Math.max(0, modifications - 8), relay.clock());
        }
    }

    /** "which is kept": each restore leads to the same object, whatever was done in between. */
    static void promise48SnapshotIsKept() {
        for (Probe probe : EnumSet.of(Probe.STATE, Probe.UNDOING, Probe.SNAPSHOT, Probe.FUTURE)) {
            QuillRelay once = Worn.started();
            once.restore();
            QuillRelay twice = Worn.started();
            twice.restore();
            twice.run(200);
            twice.withdraw(0);
            twice.withdraw(1);
            twice.restore();
            Check.same(probe.name(), probe.ask(once), probe.ask(twice));
        }
    }

    /** The time, the splits and the penalty of a finished team come back as they were. */
    static void promise48FinishComesBack() {
        QuillRelay relay = Races.finishedShort();
        relay.save();
        relay.undo();
        relay.drop(0, 7);
        relay.run(30);
        Check.same(39, relay.timeOf(0));
        Check.same(32, relay.restore());
        Check.same(32, relay.timeOf(0));
        Check.same(32, relay.resultOf(0));
        Check.same(10, relay.splitOf(0, 3));
        Check.same(32.0, relay.meanTime());
    }

    /** "are not affected by .. restore" */
    static void promise48WhatRestoreDoesNotAffect() {
        for (Probe probe : KEPT) {
            Check.same(probe.name(), probe.ask(Worn.started()), probe.ask(restored()));
        }
    }

    static void promise48YoungerRecordsStay() {
        QuillRelay relay = Races.started(2);
        relay.save();
        relay.run(2);
        keepRecords(relay);
        relay.restore();
        checkRecords(relay);
    }

    /** Undo goes behind the snapshot, and restore then leads forward. */
    static void promise48SnapshotIsNotUndone() {
        QuillRelay relay = Races.prepared(1);
        relay.start();
        relay.run(3);
        relay.save();
        undone(relay, 3);
        Check.same(0, relay.teamCount());
        Check.same(3, relay.restore());
        Check.same(1, relay.teamCount());
        Check.same(180, relay.positionOf(0));
    }
}
