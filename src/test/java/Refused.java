import java.util.EnumSet;
import java.util.NoSuchElementException;
import java.util.Set;
import java.util.function.Consumer;
import java.util.function.Supplier;

/** Calls that are refused: which exception they throw, and that they change nothing. */
final class Refused {
    static final Class<IndexOutOfBoundsException> INDEX = IndexOutOfBoundsException.class;
    static final Class<IllegalArgumentException> ARGUMENT = IllegalArgumentException.class;
    static final Class<IllegalStateException> STATE = IllegalStateException.class;
    static final Class<UnsupportedOperationException> UNSUPPORTED = UnsupportedOperationException.class;
    static final Class<NoSuchElementException> NO_ELEMENT = NoSuchElementException.class;
    static final Class<ArithmeticException> ARITHMETIC = ArithmeticException.class;

    /** Numbers that no team, leg, lane, rank, index, speed, length or number of seconds has. */
    static final int[] EXTREMES = {Integer.MIN_VALUE, Integer.MIN_VALUE + 1, -1000, Integer.MAX_VALUE};

    private Refused() {
    }

    /** The call must throw the exception, and leave the object as one on which it was not made. */
    static void with(Class<? extends RuntimeException> due, Supplier<QuillRelay> maker, Consumer<QuillRelay> call) {
        with(due, EnumSet.allOf(Probe.class), maker, call);
    }

    /** The same but for what a refused pass is documented to store. */
    static void pass(int reason, Supplier<QuillRelay> maker, int team) {
        Set<Probe> unchanged = EnumSet.complementOf(EnumSet.of(Probe.REFUSAL));
        with(UNSUPPORTED, unchanged, maker, relay -> relay.pass(team));
        QuillRelay called = maker.get();
        Check.fails(UNSUPPORTED, () -> called.pass(team));
        Check.same("the reason", reason, called.refusalReason());
        Check.same("the team", team, called.refusedTeam());
    }

    static void with(Class<? extends RuntimeException> due, Set<Probe> unchanged, Supplier<QuillRelay> maker,
            Consumer<QuillRelay> call) {
        for (Probe probe : unchanged) {
            QuillRelay called = maker.get();
            Check.fails(due, () -> call.accept(called));
            Check.same(probe.name(), probe.ask(maker.get()), probe.ask(called));
        }
    }
}
