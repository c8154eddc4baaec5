/** Promises 40 and 41. */
final class BannerTest {
    private BannerTest() {
    }

    static void promise40BannerOfAPreparedRace() {
        QuillRelay relay = Races.prepared(3);
        relay.drawLanes(7);
        Check.same("L3 - 0", Races.banner(relay, 0));
        Check.same(6, relay.writeBanner(2));
    }

    static void promise40BannerOfARunningTeam() {
        QuillRelay relay = Races.startedShort(2);
        Check.same("L1 r0 0", Races.banner(relay, 0));
        relay.run(6);
        relay.pass(1);
        relay.run(1);
        Check.same("L2 r1 350", Races.banner(relay, 1));
        relay.protest(1, 0, QuillRelay.LATE);
        Check.same("L2 r1 350+5", Races.banner(relay, 1));
    }

    static void promise40BannerOfAFinishedTeam() {
        QuillRelay relay = Races.startedShort(2);
        Races.runToLastLeg(relay);
        relay.run(10);
        Check.same("L1 f32 1600", Races.banner(relay, 0));
        relay.protest(0, 1, QuillRelay.LATE);
        Check.same("L1 f37 1600+5", Races.banner(relay, 0));
    }

    static void promise40BannerOfAWithdrawnTeam() {
        QuillRelay relay = Races.started(2);
        relay.run(2);
        relay.withdraw(1);
        Check.same("L2 w 120", Races.banner(relay, 1));
        relay.protest(1, 0, QuillRelay.DROP);
        relay.protest(1, 0, QuillRelay.LATE);
        Check.same("L2 w 120+10", Races.banner(relay, 1));
    }

    static void promise41BannerAt() {
        QuillRelay relay = Races.prepared(1);
        relay.writeBanner(0);
        Check.same('L', relay.bannerAt(0));
        Check.same('0', relay.bannerAt(5));
        for (int wrong : new int[] {-1, 6, Integer.MAX_VALUE, Integer.MIN_VALUE}) {
            Check.fails(IndexOutOfBoundsException.class, () -> relay.bannerAt(wrong));
        }
    }

    static void promise41BannerStaysAsItWasWritten() {
        QuillRelay relay = Races.prepared(2);
        relay.start();
        relay.save();
        relay.run(200);
        int length = relay.writeBanner(1);
        relay.undo();
        Check.same("L2 r0 1300", Races.bannerOfLength(relay, length));
        relay.restore();
        Check.same("L2 r0 1300", Races.bannerOfLength(relay, length));
        Check.same(7, relay.writeBanner(0));
        Check.fails(IndexOutOfBoundsException.class, () -> relay.bannerAt(7));
    }
}
