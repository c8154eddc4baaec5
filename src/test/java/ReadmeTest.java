/** The calls that README.md shows, so that they stay true. */
final class ReadmeTest {
    private ReadmeTest() {
    }

    static void testUse() {
        QuillRelay relay = new QuillRelay();
        Check.same(0, relay.addTeam());
        Check.same(1, relay.addTeam());
        Check.same(60, relay.setSpeed(1, 3, 99));
        Check.same(2, relay.start());
        Check.same(16, relay.secondsToZone(0));
        Check.same(0, relay.run(relay.secondsToZone(0)));
        Check.same(16, relay.pass(0));
        Check.same("L1 r1 954", Races.banner(relay, 0));
        Races.type(relay, "run 5;drop 1 3");
        Check.same(2, relay.execute());
        relay.undo();
        Check.same(16, relay.clock());
        Check.same(0, relay.standingOf(1));
    }

    static void testProgram() {
        QuillRelay relay = Races.prepared(3);
        Races.type(relay, "draw 7;speed 0 3 99;start;run 16;pass 0;drop 1 3;quit 2");
        Check.same(7, relay.execute());
        Check.same(3, relay.laneOf(0));
        Check.same(99, relay.speedOf(0, 3));
        Check.same(16, relay.splitOf(0, 0));
        Check.same(3, relay.standingOf(1));
        Check.same(2, relay.runningCount());
        Races.type(relay, "protest 01l");
        Check.same(1, relay.execute());
        Check.same(5, relay.penaltyOf(0));
    }
}
