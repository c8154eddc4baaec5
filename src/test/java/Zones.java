/** A started race whose team 0 has just come to one of the edges of the zone of its leg, without a foul. */
final class Zones {
    private static final int LENGTH = 600;

    private Zones() {
    }

    static QuillRelay oneBefore(int leg) {
        return leg == 0 ? firstRunner(701, -101) : laterRunner(leg, -101, 56, 77, 7);
    }

    static QuillRelay atTheBeginning(int leg) {
        return leg == 0 ? firstRunner(700, -100) : laterRunner(leg, -100, 60, 50, 10);
    }

    static QuillRelay atTheEnd(int leg) {
        return leg == 0 ? firstRunner(500, 100) : laterRunner(leg, 100, 60, 70, 10);
    }

    static QuillRelay oneBehind(int leg) {
        return leg == 0 ? firstRunner(499, 101) : laterRunner(leg, 101, 59, 79, 9);
    }

    private static QuillRelay firstRunner(int length, int offset) {
        return checked(Races.ranBy(length, new int[] {60, 10}), 0, offset);
    }

    /** The runner before runs 10 seconds at the speed that is given first, any runner before that one 600 decimetres. */
    private static QuillRelay laterRunner(int leg, int offset, int speedBefore, int speed, int seconds) {
        int[][] runners = new int[leg + 1][];
        for (int runner = 0; runner < leg; runner++) {
            runners[runner] = new int[] {runner == leg - 1 ? speedBefore : 60, 10};
        }
        runners[leg] = new int[] {speed, seconds};
        return checked(Races.ranBy(LENGTH, runners), leg, offset);
    }

    private static QuillRelay checked(QuillRelay relay, int leg, int offset) {
        Check.same(leg, relay.legOf(0));
        Check.same((leg + 1) * relay.length() + offset, relay.positionOf(0));
        Check.same(false, relay.hasFoul(0, QuillRelay.LATE));
        return relay;
    }
}
