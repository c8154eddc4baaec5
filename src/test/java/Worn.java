/** Objects with three teams that have been used, so that hardly anything in them has its first value any more. */
final class Worn {
    private Worn() {
    }

    /** Lanes 3, 2 and 1; 8 modifications can be undone; "draw 41" is in the buffer. */
    static QuillRelay prepared() {
        QuillRelay relay = Races.preparedShort(3);
        relay.drawLanes(7);
        keepRecords(relay);
        relay.save();
        relay.setSpeed(2, 3, 77);
        relay.setLength(405);
        relay.writeBanner(2);
        Races.type(relay, "draw 41");
        return relay;
    }

    /** A refusal of team 1, an error position and a failed command; the race stays prepared. */
    private static void keepRecords(QuillRelay relay) {
        relay.start();
        Check.fails(UnsupportedOperationException.class, () -> relay.pass(1));
        relay.undo();
        Races.type(relay, "dra");
        Check.fails(IllegalArgumentException.class, () -> relay.execute());
        Races.type(relay, "draw 3;run 1");
        Check.fails(IllegalStateException.class, () -> relay.execute());
    }

    /** Team 0 is in the zone of leg 1, team 1 stands with a foul of the kind DROP, team 2 has one of the kind LATE. */
    static QuillRelay started() {
        QuillRelay relay = Races.preparedShort(3);
        relay.drawLanes(7);
        keepRecords(relay);
        relay.start();
        relay.run(6);
        relay.pass(0);
        relay.drop(1, 10);
        relay.protest(0, 1, QuillRelay.DROP);
        relay.run(8);
        relay.save();
        relay.pass(2);
        relay.protest(0, 1, QuillRelay.LATE);
        relay.drop(1, 20);
        relay.run(2);
        relay.writeBanner(0);
        Races.type(relay, "run 7");
        return relay;
    }

    /** Team 0 has finished with a penalty, team 1 with a foul, team 2 has withdrawn while it stood. */
    static QuillRelay finished() {
        QuillRelay relay = Races.preparedShort(3);
        relay.drawLanes(7);
        keepRecords(relay);
        relay.start();
        relay.run(6);
        relay.drop(1, 1);
        relay.run(1);
        relay.save();
        passToLastLeg(relay, 0, 1);
        relay.drop(2, 20);
        relay.withdraw(2);
        relay.protest(0, 2, QuillRelay.LATE);
        relay.run(50);
        relay.writeBanner(1);
        Races.type(relay, "protest 01d");
        return relay;
    }

    private static void passToLastLeg(QuillRelay relay, int... teams) {
        for (int leg = 0; leg < 3; leg++) {
            for (int team : teams) {
                relay.pass(team);
            }
            relay.run(8);
        }
    }
}
