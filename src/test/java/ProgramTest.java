import java.util.NoSuchElementException;

/** Promises 42 to 45. */
final class ProgramTest {
    private static final String SIXTY = "run 1;run 1;run 1;run 1;run 1;run 1;run 1;run 1;run 1;run 01";

    private ProgramTest() {
    }

    static void promise43EachCommandCallsItsMethod() {
        QuillRelay relay = Races.prepared(3);
        Check.same(1, Races.execute(relay, "draw 7"));
        Check.same(3, relay.laneOf(0));
        Check.same(2, Races.execute(relay, "speed 0 1 99;speed 2 3 020"));
        Check.same(99, relay.speedOf(0, 1));
        Check.same(20, relay.speedOf(2, 3));
        Check.same(1, Races.execute(relay, "start"));
        Check.same(3, relay.runningCount());
        Check.same(1, Races.execute(relay, "run 016"));
        Check.same(954, relay.positionOf(0));
        Check.same(2, Races.execute(relay, "pass 0;drop 1 7"));
        Check.same(1, relay.legOf(0));
        Check.same(7, relay.standingOf(1));
        Check.same(true, relay.hasFoul(1, QuillRelay.DROP));
        Check.same(2, Races.execute(relay, "protest 21d;protest 01l"));
        Check.same(10, relay.penaltyOf(1));
        Check.same(5, relay.penaltyOf(0));
        Check.same(1, Races.execute(relay, "quit 1"));
        Check.same(false, relay.isRunning(1));
        Check.same(true, relay.isRunning(0));
    }

    static void promise43LateProtest() {
        QuillRelay relay = Races.startedShort(2);
        Check.same(3, Races.execute(relay, "run 200;pass 1;protest 01l"));
        Check.same(10, relay.penaltyOf(1));
        Check.same(0, relay.penaltyOf(0));
    }

    static void promise43KindsOfProtest() {
        QuillRelay relay = Races.startedShort(2);
        Check.same(3, Races.execute(relay, "run 6;drop 1 1;run 200"));
        Check.same(3, Races.execute(relay, "pass 1;protest 01d;protest 01l"));
        Check.same(20, relay.penaltyOf(1));
        Check.same(0, relay.penaltyOf(0));
    }

    static void promise43BufferIsEmptiedEachTime() {
        QuillRelay relay = Races.started(1);
        Races.execute(relay, "run 1");
        Check.same(1, relay.type('q'));
        Check.fails(IllegalArgumentException.class, () -> relay.execute());
        Check.same(1, relay.type('r'));
        Races.type(relay, "un 0");
        Check.fails(IllegalStateException.class, () -> relay.execute());
        Check.same(1, relay.type('r'));
    }

    static void promise43AllCommandsOrNone() {
        QuillRelay relay = Races.started(2);
        relay.run(5);
        String state = Races.state(relay);
        fails(relay, "run 20;pass 0;drop 1 3;protest 01l;quit 1;pass 1", 5);
        Check.same(state, Races.state(relay));
        QuillRelay prepared = Races.prepared(2);
        String first = Races.state(prepared);
        fails(prepared, "draw 2;speed 1 0 80;start;start", 3);
        Check.same(first, Races.state(prepared));
    }

    private static void fails(QuillRelay relay, String program, int command) {
        Races.type(relay, program);
        Check.fails(IllegalStateException.class, () -> relay.execute());
        Check.same(command, relay.failedCommand());
    }

    static void promise43RefusedPassIsStored() {
        QuillRelay relay = Races.started(2);
        fails(relay, "run 1;pass 1", 1);
        Check.same(QuillRelay.TOO_EARLY, relay.refusalReason());
        Check.same(1, relay.refusedTeam());
        fails(relay, "drop 0 1;pass 0", 1);
        Check.same(QuillRelay.DROPPED, relay.refusalReason());
        Check.same(0, relay.refusedTeam());
    }

    static void promise43MalformedProgramDoesNothing() {
        QuillRelay relay = Races.started(1);
        malformed(relay, "run 5;run x", 10);
        Check.same(0, relay.clock());
        malformed(relay, "pass 0;", 7);
        Check.fails(NoSuchElementException.class, () -> relay.failedCommand());
        Check.fails(NoSuchElementException.class, () -> relay.refusalReason());
    }

    private static void malformed(QuillRelay relay, String program, int position) {
        Races.type(relay, program);
        Check.fails(IllegalArgumentException.class, () -> relay.execute());
        Check.same(position, relay.errorPosition());
    }

    static void promise44PositionOfAWrongCharacter() {
        QuillRelay relay = new QuillRelay();
        Object[][] rows = {{"x", 0}, {" start", 0}, {"Start", 0}, {"sx", 1}, {"stx", 2}, {"spx", 2}, {"px", 1},
            {"pax", 2}, {"prx", 2}, {"dx", 1}, {"drx", 2}, {"droq", 3}, {"drop  1", 5}, {"drop 1x", 6}, {"drop 12", 6},
            {"drop 1 x", 7}, {"drop 1 1234", 10}, {"run  1", 4}, {"run1", 3}, {"run 1 ", 5}, {"run 1234", 7}, {"run -1", 4},
            {"start ", 5}, {"start;;", 6}, {"start;start,", 11}, {"pass a", 5}, {"pass 12", 6}, {"quit ;", 5},
            {"protest 0l", 9}, {"protest 01x", 10}, {"protest 0 1l", 9}, {"protest 01ll", 11}, {"protest 01D", 10},
            {"speed 01", 7}, {"speed 0 12", 9}, {"speed 0 1 x", 10}, {"speed 0 1 9999", 13}, {"draw x", 5}, {"draw 1000", 8},
            {";", 0}, {"run 1;x", 6}, {"run 1; run 1", 6}, {"pass :", 5}, {"pass /", 5}};
        for (Object[] row : rows) {
            malformed(relay, (String) row[0], (Integer) row[1]);
        }
    }

    static void promise44LengthOfATextThatEndsTooEarly() {
        QuillRelay relay = new QuillRelay();
        String[] programs = {"", "s", "st", "star", "sp", "speed 0 1 ", "run", "run ", "p", "pass ", "pr", "protest 01",
            "d", "dr", "dra", "drop 0", "drop 0 ", "q", "quit ", "start;", "run 1;start;", "run 1;d"};
        for (String program : programs) {
            malformed(relay, program, program.length());
        }
        String sixty = SIXTY.substring(0, 59) + ";";
        malformed(relay, sixty, 60);
    }

    static void promise44OnlyTheLastMalformedProgramCounts() {
        QuillRelay relay = Races.prepared(1);
        Check.fails(NoSuchElementException.class, () -> relay.errorPosition());
        fails(relay, "run 1", 0);
        Check.fails(NoSuchElementException.class, () -> relay.errorPosition());
        malformed(relay, "starx", 4);
        Races.execute(relay, "start");
        Check.same(4, relay.errorPosition());
        relay.undo();
        Check.same(4, relay.errorPosition());
        relay.save();
        malformed(relay, "z", 0);
        relay.restore();
        Check.same(0, relay.errorPosition());
    }

    static void promise45FailedCommand() {
        QuillRelay relay = Races.prepared(1);
        Check.fails(NoSuchElementException.class, () -> relay.failedCommand());
        malformed(relay, "x", 0);
        Check.fails(NoSuchElementException.class, () -> relay.failedCommand());
        Check.fails(IllegalStateException.class, () -> relay.run(1));
        Check.fails(NoSuchElementException.class, () -> relay.failedCommand());
        fails(relay, "start;run 1;run 2;start", 3);
        fails(relay, "run 1", 0);
        fails(relay, "start;run 201", 1);
        relay.save();
        Races.execute(relay, "start;run 1");
        Check.same(1, relay.failedCommand());
        relay.undo();
        relay.restore();
        Check.same(1, relay.failedCommand());
    }
}
