import java.util.function.Supplier;

/** Ways to find out what an object holds; each is made for an object of its own, which it may change. */
enum Probe {
    STATE {
        @Override
        String ask(QuillRelay relay) {
            return Races.state(relay);
        }
    },
    REFUSAL {
        @Override
        String ask(QuillRelay relay) {
            return join(relay::refusalReason, relay::refusedTeam);
        }
    },
    ERROR_POSITION {
        @Override
        String ask(QuillRelay relay) {
            return join(relay::errorPosition);
        }
    },
    FAILED_COMMAND {
        @Override
        String ask(QuillRelay relay) {
            return join(relay::failedCommand);
        }
    },
    BANNER {
        @Override
        String ask(QuillRelay relay) {
            StringBuilder text = new StringBuilder();
            for (int index = 0; index < 30; index++) {
                int asked = index;
                text.append(join(() -> relay.bannerAt(asked)));
            }
            return text.toString();
        }
    },
    BUFFER_LENGTH {
        @Override
        String ask(QuillRelay relay) {
            return join(() -> relay.type('!'));
        }
    },
    BUFFER {
        @Override
        String ask(QuillRelay relay) {
            return join(relay::execute, relay::errorPosition, relay::failedCommand) + Races.state(relay);
        }
    },
    UNDOING {
        @Override
        String ask(QuillRelay relay) {
            StringBuilder text = new StringBuilder();
            for (int call = 0; call < 9; call++) {
                text.append(join(relay::undo)).append(Races.shortState(relay)).append('\n');
            }
            return text.toString();
        }
    },
    SNAPSHOT {
        @Override
        String ask(QuillRelay relay) {
            return join(relay::restore) + Races.state(relay) + join(relay::undo);
        }
    },
    /** Shows what no question asks for: the seconds that a runner has run, and the clock at the last pass. */
    FUTURE {
        @Override
        String ask(QuillRelay relay) {
            StringBuilder text = new StringBuilder(join(relay::start));
            for (int seconds : new int[] {3, 9, 40, 200}) {
                text.append(join(() -> relay.run(seconds)));
                for (int team = 0; team < relay.teamCount(); team++) {
                    int passing = team;
                    text.append(join(() -> relay.positionOf(passing), () -> relay.pass(passing)));
                }
            }
            return text.append(Races.state(relay)).toString();
        }
    };

    abstract String ask(QuillRelay relay);

    @SafeVarargs
    private static String join(Supplier<Object>... questions) {
        StringBuilder text = new StringBuilder();
        for (Supplier<Object> question : questions) {
            text.append(Check.outcome(question)).append(' ');
        }
        return text.toString();
    }
}
