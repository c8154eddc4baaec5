import java.util.EnumSet;
import java.util.Set;
import java.util.function.Supplier;

/** The boundary cases that the document names for promises 42 to 45. */
final class ProgramEdgesTest {
    private static final String FIFTY_FOUR = "run 1;run 1;run 1;run 1;run 1;run 1;run 1;run 1;run 1;";
    /** One of each kind; no beginning of one is a program as well. */
    private static final String[] COMMANDS = {"start", "run 1", "pass 0", "drop 0 1", "quit 0", "protest 01l",
        "protest 10d", "speed 0 0 1", "draw 1"};

    private ProgramEdgesTest() {
    }

    // ---- type

    /** "if the character is not from 32 to 126" */
    static void promise42Characters() {
        for (char wrong : new char[] {0, 31, 127, 128, 160, 255, 256 + 65, 65535}) {
            Refused.with(Refused.ARGUMENT, Worn::prepared, relay -> relay.type(wrong));
        }
        QuillRelay relay = new QuillRelay();
        Check.same(1, relay.type((char) 32));
        Check.same(2, relay.type((char) 126));
    }

    /** "if the buffer contains 60 characters" */
    static void promise42SixtiethCharacterIsTheLast() {
        QuillRelay relay = typed(59);
        Check.same(60, relay.type('a'));
        Refused.with(Refused.STATE, () -> typed(60), full -> full.type('a'));
    }

    private static QuillRelay typed(int characters) {
        QuillRelay relay = Races.started(1);
        Races.type(relay, (FIFTY_FOUR + "run 01").substring(0, characters));
        return relay;
    }

    static void promise42OrderOfExceptions() {
        Refused.with(Refused.ARGUMENT, () -> typed(60), full -> full.type((char) 31));
        Refused.with(Refused.ARGUMENT, () -> typed(60), full -> full.type((char) 127));
    }

    /** "and empties the buffer": whatever came of the program, 60 characters can be typed again. */
    static void promise42FullBufferIsEmptyAfterExecute() {
        QuillRelay relay = typed(60);
        Check.same(10, relay.execute());
        Races.type(relay, FIFTY_FOUR + "run 0x");
        Check.fails(Refused.ARGUMENT, () -> relay.execute());
        Races.type(relay, FIFTY_FOUR + "run 00");
        Check.fails(Refused.STATE, () -> relay.execute());
        for (int count = 1; count <= 60; count++) {
            Check.same(count, relay.type('a'));
        }
        Check.fails(Refused.STATE, () -> relay.type('a'));
    }

    // ---- execute

    /** A worn object whose buffer is empty, because its program has been executed. */
    private static Supplier<QuillRelay> emptied(Supplier<QuillRelay> maker) {
        return () -> {
            QuillRelay relay = maker.get();
            Check.same(1, relay.execute());
            return relay;
        };
    }

    /** A malformed program changes the error position, and empties the buffer; all else is as if it had not been typed. */
    private static void malformed(Supplier<QuillRelay> maker, String program, int position) {
        Set<Probe> unchanged = EnumSet.complementOf(EnumSet.of(Probe.ERROR_POSITION));
        Refused.with(Refused.ARGUMENT, unchanged, emptied(maker), relay -> Races.execute(relay, program));
        QuillRelay relay = emptied(maker).get();
        malformed(relay, program, position);
    }

    private static void malformed(QuillRelay relay, String program, int position) {
        Check.fails(program, Refused.ARGUMENT, () -> Races.execute(relay, program));
        Check.same(program, position, relay.errorPosition());
    }

    /** A program that fails changes the failed command, and empties the buffer; all else is as if it had not been typed. */
    private static void failing(Supplier<QuillRelay> maker, String program, int command) {
        failing(EnumSet.of(Probe.FAILED_COMMAND, Probe.BUFFER), maker, program, command);
    }

    private static void failing(Set<Probe> changed, Supplier<QuillRelay> maker, String program, int command) {
        Set<Probe> unchanged = EnumSet.allOf(Probe.class);
        unchanged.removeAll(changed);
        Refused.with(Refused.STATE, unchanged, emptied(maker), relay -> Races.execute(relay, program));
        QuillRelay relay = emptied(maker).get();
        Check.fails(program, Refused.STATE, () -> Races.execute(relay, program));
        Check.same(program, command, relay.failedCommand());
        Check.same(program, 1, relay.type('a'));
    }

    private static void refusedPass(Supplier<QuillRelay> maker, String program, int command, int reason, int team) {
        failing(EnumSet.of(Probe.FAILED_COMMAND, Probe.BUFFER, Probe.REFUSAL), maker, program, command);
        QuillRelay relay = emptied(maker).get();
        Check.fails(program, Refused.STATE, () -> Races.execute(relay, program));
        Check.same(program, reason, relay.refusalReason());
        Check.same(program, team, relay.refusedTeam());
    }

    static void promise43MalformedProgramChangesOnlyTheErrorPosition() {
        malformed(Worn::prepared, "speed 0 0 99;start;run", 22);
        malformed(Worn::started, "run 5;pass 0;quit 1;x", 20);
        malformed(Worn::finished, "run 5;;", 6);
    }

    /** "program = command { ";" command }": there is at least one command. */
    static void promise43EmptyProgramIsMalformed() {
        malformed(Worn::started, "", 0);
        QuillRelay relay = new QuillRelay();
        malformed(relay, "", 0);
    }

    static void promise43OneCommandAndManyCommands() {
        QuillRelay relay = Races.started(1);
        Check.same(1, Races.execute(relay, "run 1"));
        Check.same(2, Races.execute(relay, "run 1;run 1"));
        Check.same(10, Races.execute(relay, FIFTY_FOUR + "run 1"));
        Check.same(13, relay.clock());
    }

    static void promise43FullBufferIsExecuted() {
        QuillRelay relay = typed(60);
        Check.same(10, relay.execute());
        Check.same(10, relay.clock());
    }

    /** "number = one to three digits" */
    static void promise43NumbersOfOneToThreeDigits() {
        QuillRelay relay = Races.prepared(1);
        for (String number : new String[] {"0", "9", "00", "99", "000", "007", "999"}) {
            Check.same(1, Races.execute(relay, "draw " + number));
        }
        for (String number : new String[] {"20", "020", "99", "099"}) {
            Check.same(1, Races.execute(relay, "speed 0 3 " + number));
            Check.same(Integer.parseInt(number), relay.speedOf(0, 3));
        }
        relay.start();
        for (String number : new String[] {"1", "01", "001", "10", "010", "100"}) {
            Check.same(1, Races.execute(relay, "run " + number));
            relay.undo();
        }
        for (String number : new String[] {"1", "01", "001", "20", "020"}) {
            Check.same(1, Races.execute(relay, "drop 0 " + number));
            Check.same(Integer.parseInt(number), relay.standingOf(0));
            relay.undo();
        }
    }

    /** The last argument that a command can have, and the first that its method refuses. */
    static void promise43ArgumentsAtTheLimitsOfTheMethods() {
        QuillRelay prepared = Races.prepared(6);
        for (String program : new String[] {"speed 0 0 20", "speed 5 3 99", "draw 0", "draw 999", "start"}) {
            Check.same(program, 1, Races.execute(prepared, program));
        }
        QuillRelay started = Races.started(6);
        String[] programs = {"run 1", "run 200", "drop 0 1", "drop 5 20", "protest 05l", "protest 50d", "quit 0", "quit 5"};
        for (String program : programs) {
            Check.same(program, 1, Races.execute(started, program));
        }
        for (String program : new String[] {"speed 3 0 50", "speed 9 0 50", "speed 0 4 50", "speed 0 9 50", "speed 0 0 19",
            "speed 0 0 100", "speed 2 3 999"}) {
            failing(Worn::prepared, program, 0);
        }
        for (String program : new String[] {"run 0", "run 201", "run 999", "drop 0 0", "drop 0 21", "drop 3 1", "drop 9 1",
            "pass 3", "pass 9", "quit 3", "quit 9", "protest 03l", "protest 30d", "protest 00l", "protest 22d", "protest 99l"}) {
            failing(Worn::started, program, 0);
        }
    }

    /** Each command fails in the states in which its method throws. */
    static void promise43CommandsInTheWrongState() {
        for (String program : new String[] {"run 1", "pass 0", "drop 0 1", "quit 0", "protest 01l"}) {
            failing(Worn::prepared, program, 0);
        }
        for (String program : new String[] {"start", "speed 0 0 50", "draw 1"}) {
            failing(Worn::started, program, 0);
            failing(Worn::finished, program, 0);
        }
        for (String program : new String[] {"pass 0", "pass 2", "drop 0 1", "drop 2 1", "quit 1", "quit 2"}) {
            failing(Worn::finished, program, 0);
        }
        QuillRelay empty = new QuillRelay();
        Check.fails(Refused.STATE, () -> Races.execute(empty, "start"));
        Check.fails(Refused.STATE, () -> Races.execute(empty, "draw 0"));
    }

    /** "protest with the protesting team, the other team and LATE or DROP" */
    static void promise43TeamsAndKindsOfAProtest() {
        Object[][] programAndPenalties = {{"protest 02l", "5 10 10"}, {"protest 01d", "5 20 0"}, {"protest 02d", "10 10 0"},
            {"protest 01l", "10 10 0"}, {"protest 20l", "5 10 5"}, {"protest 10d", "5 15 0"},
            {"protest 02l;protest 01d", "5 20 10"}, {"protest 01d;protest 02l", "5 20 10"}};
        for (Object[] row : programAndPenalties) {
            QuillRelay relay = emptied(Worn::started).get();
            Races.execute(relay, (String) row[0]);
            String penalties = relay.penaltyOf(0) + " " + relay.penaltyOf(1) + " " + relay.penaltyOf(2);
            Check.same((String) row[0], row[1], penalties);
        }
    }

    /** "quit" calls withdraw: the team has not finished, and it keeps its place. */
    static void promise43QuitWithdraws() {
        QuillRelay relay = Races.started(2);
        Check.same(2, Races.execute(relay, "run 1;quit 1"));
        Check.same("L2 w 60", Races.banner(relay, 1));
        Check.fails(Refused.NO_ELEMENT, () -> relay.timeOf(1));
        Check.same(1, relay.rankOf(1));
        Check.same("L1 r0 60", Races.banner(relay, 0));
    }

    /** "draw" with the seed: the lanes are those that drawLanes gives, also with zeros in front. */
    static void promise43DrawDrawsLanes() {
        for (String number : new String[] {"199", "7", "007"}) {
            QuillRelay commanded = Races.prepared(6);
            Races.execute(commanded, "draw " + number);
            QuillRelay called = Races.prepared(6);
            called.drawLanes(Integer.parseInt(number));
            Check.same(Races.state(called), Races.state(commanded));
        }
    }

    /** A command sees what the commands before it have done, and is judged by that alone. */
    static void promise43CommandsSeeTheOnesBeforeThem() {
        QuillRelay relay = Races.preparedShort(2);
        Check.same(4, Races.execute(relay, "start;run 6;pass 0;drop 1 1"));
        Check.same(2, Races.execute(relay, "quit 0;quit 1"));
        Check.same(true, relay.isFinished());
        failing(Worn::started, "quit 0;quit 0", 1);
        failing(Worn::prepared, "start;speed 0 0 50", 1);
    }

    /** "all commands of it or none" */
    static void promise43AllCommandsOrNone() {
        failing(Worn::prepared, "draw 5;speed 0 0 90;start;run 9;drop 0 2;quit 1;run 0", 6);
        failing(Worn::started, "run 20;pass 0;drop 0 2;protest 01d;quit 2;start", 5);
        failing(Worn::finished, "protest 01l;protest 20d;run 100;quit 0", 3);
    }

    /** "and the refusal, if it is a refused pass"; the pass is refused in the state that the commands before it made. */
    static void promise43RefusedPassIsStoredThoughTheProgramIsTakenBack() {
        refusedPass(Worn::started, "pass 1", 0, QuillRelay.DROPPED, 1);
        refusedPass(Worn::started, "run 9;drop 2 1;pass 2", 2, QuillRelay.DROPPED, 2);
        refusedPass(Worn::prepared, "start;pass 2", 1, QuillRelay.TOO_EARLY, 2);
        refusedPass(Worn::started, "run 20;pass 0;run 50;pass 0;pass 0", 4, QuillRelay.LAST_LEG, 0);
    }

    /** "the one that is documented first is thrown": a malformed program is not begun, though its first command would fail. */
    static void promise43OrderOfExceptions() {
        malformed(Worn::started, "start;x", 6);
        malformed(Worn::started, "pass 1;", 7);
        QuillRelay relay = Races.started(1);
        malformed(relay, "pass 0;pass 00", 13);
        Check.fails(Refused.NO_ELEMENT, () -> relay.failedCommand());
        Check.fails(Refused.NO_ELEMENT, () -> relay.refusalReason());
    }

    // ---- errorPosition

    static void promise44RefusedWhenNoProgramWasMalformed() {
        Refused.with(Refused.NO_ELEMENT, QuillRelay::new, relay -> relay.errorPosition());
        Refused.with(Refused.NO_ELEMENT, ProgramEdgesTest::withOneGoodAndOneFailingProgram, relay -> relay.errorPosition());
    }

    private static QuillRelay withOneGoodAndOneFailingProgram() {
        QuillRelay relay = Races.prepared(2);
        Races.execute(relay, "start;run 1");
        Check.fails(Refused.STATE, () -> Races.execute(relay, "start"));
        Races.type(relay, "x");
        return relay;
    }

    /** "the index of the first character that cannot continue any program": at each index of each command */
    static void promise44WrongCharacterAtEachIndex() {
        for (String prefix : new String[] {"", "run 1;", "start;draw 999;"}) {
            for (String command : COMMANDS) {
                for (int index = 0; index < command.length(); index++) {
                    String text = prefix + command.substring(0, index) + "~" + command.substring(index + 1);
                    malformed(new QuillRelay(), text, prefix.length() + index);
                }
                malformed(new QuillRelay(), prefix + command + "~", prefix.length() + command.length());
            }
        }
    }

    /** "or the length of the text if it ends too early": after each index of each command */
    static void promise44TextThatEndsTooEarlyAtEachIndex() {
        for (String prefix : new String[] {"", "run 1;", "start;draw 999;"}) {
            for (String command : COMMANDS) {
                for (int length = 0; length < command.length(); length++) {
                    String text = prefix + command.substring(0, length);
                    malformed(new QuillRelay(), text, text.length());
                }
            }
        }
    }

    /** The fourth digit of a number, the second one of a team or a leg, and a number without digits. */
    static void promise44NumbersThatAreTooLongOrEmpty() {
        Object[][] rows = {{"run 1234", 7}, {"run 0001", 7}, {"drop 0 1234", 10}, {"speed 0 0 0020", 13}, {"draw 0000", 8},
            {"pass 00", 6}, {"quit 00", 6}, {"drop 00 1", 6}, {"speed 00 0 50", 7}, {"speed 0 00 50", 9},
            {"protest 001l", 10}, {"protest 0l", 9}, {"protest l", 8}, {"protest 01", 10}, {"run ;run 1", 4},
            {"drop 0 ;run 1", 7}, {"speed 0 0 ;start", 10}, {"draw ;start", 5}, {"run -1", 4}, {"run +1", 4}, {"run 1.", 5}};
        checkRows(rows);
    }

    /** '/' and ':' are the neighbours of the digits; 'k', 'm', 'c' and 'e' those of the kinds. */
    static void promise44NeighboursOfTheDigitsAndTheKinds() {
        Object[][] rows = {{"run /", 4}, {"run :", 4}, {"run 1/", 5}, {"run 1:", 5}, {"pass /", 5}, {"pass :", 5},
            {"quit /", 5}, {"quit :", 5}, {"drop /", 5}, {"drop :", 5}, {"drop 0 /", 7}, {"drop 0 :", 7}, {"protest /", 8},
            {"protest :", 8}, {"protest 0/", 9}, {"protest 0:", 9}, {"protest 01k", 10}, {"protest 01m", 10},
            {"protest 01c", 10}, {"protest 01e", 10}, {"protest 01L", 10}, {"protest 01D", 10}, {"protest 010", 10},
            {"speed /", 6}, {"speed :", 6}, {"speed 0 /", 8}, {"speed 0 :", 8}, {"draw /", 5}, {"draw :", 5}};
        checkRows(rows);
    }

    /** Where the words of the commands part: "start" and "speed", "pass" and "protest", "drop" and "draw". */
    static void promise44WordsThatBeginAlike() {
        Object[][] rows = {{"sa", 1}, {"sparet", 2}, {"stpeed", 2}, {"pa", 2}, {"par", 2}, {"prs", 2}, {"dw", 1},
            {"drw", 2}, {"drow", 3}, {"drap", 3}, {"quid", 3}, {"startrun 1", 5}, {"START", 0}, {"starT", 4}};
        checkRows(rows);
    }

    /** A blank is as wrong as any other character where the grammar has none. */
    static void promise44Blanks() {
        Object[][] rows = {{" ", 0}, {" start", 0}, {"start ", 5}, {"start; run 1", 6}, {"start ;run 1", 5}, {"run  1", 4},
            {"run 1 ", 5}, {"pass  0", 5}, {"drop 0  1", 7}, {"protest 0 1l", 9}, {"protest 01 l", 10}, {"speed 0  0 50", 8}};
        checkRows(rows);
    }

    static void promise44Semicolons() {
        Object[][] rows = {{";", 0}, {";start", 0}, {"start;", 6}, {"start;;", 6}, {"start;;start", 6}, {"start:start", 5},
            {"run 1;", 6}, {"run 1;run 1;", 12}};
        checkRows(rows);
    }

    private static void checkRows(Object[][] rows) {
        for (Object[] row : rows) {
            malformed(new QuillRelay(), (String) row[0], (Integer) row[1]);
        }
    }

    /** The least position and the greatest: 0, the last character of a full buffer, and its length. */
    static void promise44PositionsOfAFullBuffer() {
        malformed(new QuillRelay(), "x" + FIFTY_FOUR + "run 1", 0);
        malformed(new QuillRelay(), FIFTY_FOUR + "run 0x", 59);
        malformed(new QuillRelay(), FIFTY_FOUR + "run 1;", 60);
    }

    static void promise44LastMalformedProgramCounts() {
        QuillRelay relay = new QuillRelay();
        malformed(relay, "start;;", 6);
        malformed(relay, "", 0);
        Check.fails(Refused.STATE, () -> Races.execute(relay, "start"));
        Check.same(0, relay.errorPosition());
    }

    // ---- failedCommand

    static void promise45RefusedWhenNoCommandFailed() {
        Refused.with(Refused.NO_ELEMENT, QuillRelay::new, relay -> relay.failedCommand());
        Refused.with(Refused.NO_ELEMENT, ProgramEdgesTest::withOneGoodAndOneMalformedProgram, relay -> relay.failedCommand());
    }

    private static QuillRelay withOneGoodAndOneMalformedProgram() {
        QuillRelay relay = Races.prepared(2);
        Races.execute(relay, "start;run 1");
        Check.fails(Refused.ARGUMENT, () -> Races.execute(relay, "start;run"));
        Check.fails(Refused.STATE, () -> relay.start());
        return relay;
    }

    /** "the index in its program, from 0": the first command, and the last one of the longest program */
    static void promise45FirstAndLastIndex() {
        failing(Worn::started, "run 0;run 1;run 1", 0);
        failing(Worn::started, "run 1;run 0;run 1", 1);
        failing(Worn::started, FIFTY_FOUR + "run 00", 9);
    }

    /** The first command that fails ends the program; those behind it are not tried. */
    static void promise45OnlyTheFirstFailureCounts() {
        failing(Worn::started, "run 1;start;run 0;start", 1);
        QuillRelay relay = Races.started(1);
        Check.fails(Refused.STATE, () -> Races.execute(relay, "start;pass 0"));
        Check.fails(Refused.NO_ELEMENT, () -> relay.refusalReason());
    }

    static void promise45LastProgramThatFailedCounts() {
        QuillRelay relay = Races.started(1);
        Check.fails(Refused.STATE, () -> Races.execute(relay, "run 1;run 1;run 0"));
        Check.same(2, relay.failedCommand());
        Races.execute(relay, "run 1");
        Check.fails(Refused.ARGUMENT, () -> Races.execute(relay, "run 1;run"));
        Check.same(2, relay.failedCommand());
        Check.fails(Refused.STATE, () -> Races.execute(relay, "start"));
        Check.same(0, relay.failedCommand());
    }
}
