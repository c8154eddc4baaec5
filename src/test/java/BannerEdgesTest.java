/** The boundary cases that the document names for promises 40 and 41. */
final class BannerEdgesTest {
    private BannerEdgesTest() {
    }

    static void promise40TeamNumbers() {
        Refused.with(Refused.INDEX, QuillRelay::new, relay -> relay.writeBanner(0));
        Refused.with(Refused.INDEX, Worn::prepared, relay -> relay.writeBanner(-1));
        Refused.with(Refused.INDEX, Worn::started, relay -> relay.writeBanner(3));
        Refused.with(Refused.INDEX, Worn::finished, relay -> relay.writeBanner(3));
        QuillRelay six = Races.prepared(6);
        Check.same("L1 - 0", Races.banner(six, 0));
        Check.same("L6 - 0", Races.banner(six, 5));
        Check.fails(Refused.INDEX, () -> six.writeBanner(6));
        for (int wrong : Refused.EXTREMES) {
            Check.fails(Refused.INDEX, () -> six.writeBanner(wrong));
        }
    }

    /** "+" and its penalty if that is not 0": with 0 there is no sign, with 5 there is, in each state of a team. */
    static void promise40PenaltyZeroIsNotWritten() {
        QuillRelay relay = Races.started(2);
        Check.same("L1 r0 0", Races.banner(relay, 0));
        relay.protest(0, 1, QuillRelay.LATE);
        Check.same("L1 r0 0+5", Races.banner(relay, 0));
        Check.same("L2 r0 0", Races.banner(relay, 1));
        relay.withdraw(0);
        Check.same("L1 w 0+5", Races.banner(relay, 0));
        Check.same("L2 r0 0", Races.banner(relay, 1));
    }

    /** "r" and the leg if it is running": from leg 0 to leg 3, up to the second before the finish */
    static void promise40EachLegAndTheFinish() {
        QuillRelay relay = Races.startedShort(1);
        Check.same("L1 r0 0", Races.banner(relay, 0));
        int[] seconds = {6, 8, 8};
        String[] due = {"L1 r1 300", "L1 r2 700", "L1 r3 1100"};
        for (int leg = 0; leg < 3; leg++) {
            relay.run(seconds[leg]);
            relay.pass(0);
            Check.same(due[leg], Races.banner(relay, 0));
        }
        relay.run(9);
        Check.same("L1 r3 1550", Races.banner(relay, 0));
        relay.run(1);
        Check.same("L1 f32 1600", Races.banner(relay, 0));
    }

    /** The document's example: lane 3, leg 2, 2450 decimetres, a penalty of 5. */
    static void promise40ExampleOfTheDocument() {
        QuillRelay relay = Races.prepared(3);
        int[] speeds = {95, 95, 55};
        for (int leg = 0; leg < 3; leg++) {
            relay.setSpeed(2, leg, speeds[leg]);
        }
        relay.start();
        for (int leg = 0; leg < 2; leg++) {
            relay.run(10);
            relay.pass(2);
        }
        relay.run(10);
        relay.protest(2, 0, QuillRelay.LATE);
        Check.same("L3 r2 2450+5", Races.banner(relay, 2));
        Check.same(12, relay.writeBanner(2));
    }

    /** "in place of the banner before": nothing of a longer one is left. */
    static void promise40ShorterBannerReplacesALongerOne() {
        QuillRelay relay = Worn.started();
        Check.same("L3 r1 800+5", Races.banner(relay, 0));
        int longer = relay.writeBanner(0);
        relay.restore();
        int shorter = relay.writeBanner(2);
        Check.same("L1 r0 696", Races.bannerOfLength(relay, shorter));
        Check.same(true, shorter < longer);
        Check.fails(Refused.INDEX, () -> relay.bannerAt(shorter));
    }

    /** "which is empty at first" */
    static void promise41EmptyUntilTheFirstBanner() {
        Refused.with(Refused.INDEX, QuillRelay::new, relay -> relay.bannerAt(0));
        Refused.with(Refused.INDEX, () -> Races.prepared(1), relay -> relay.bannerAt(0));
        QuillRelay relay = Races.prepared(1);
        Check.fails(Refused.INDEX, () -> relay.writeBanner(1));
        Check.fails(Refused.INDEX, () -> relay.bannerAt(0));
    }

    /** "index of the character, from 0": up to one less than the length that writeBanner returned */
    static void promise41Indexes() {
        Refused.with(Refused.INDEX, Worn::prepared, relay -> relay.bannerAt(-1));
        Refused.with(Refused.INDEX, Worn::prepared, relay -> relay.bannerAt(6));
        QuillRelay relay = Worn.prepared();
        Check.same('L', relay.bannerAt(0));
        Check.same('1', relay.bannerAt(1));
        Check.same('0', relay.bannerAt(5));
        for (int wrong : Refused.EXTREMES) {
            Check.fails(Refused.INDEX, () -> relay.bannerAt(wrong));
        }
    }
}
