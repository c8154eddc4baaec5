/** Promises 1 to 6. */
final class PreparingTest {
    private PreparingTest() {
    }

    static void promise1NewObjectIsPreparedRaceWithoutTeams() {
        QuillRelay relay = new QuillRelay();
        Check.same("0 0 false false 0 1000", Races.state(relay));
        Check.fails(IllegalStateException.class, () -> relay.undo());
        Check.fails(IllegalStateException.class, () -> relay.restore());
        Check.same(0, relay.addTeam());
    }

    static void promise1ObjectsAreIndependent() {
        QuillRelay first = Races.started(2);
        QuillRelay second = new QuillRelay();
        first.run(5);
        Check.same("0 0 false false 0 1000", Races.state(second));
    }

    static void promise2TeamsAreNumberedFromZero() {
        QuillRelay relay = new QuillRelay();
        for (int team = 0; team < 6; team++) {
            Check.same(team, relay.addTeam());
            Check.same(team + 1, relay.teamCount());
        }
        Check.fails(IllegalStateException.class, () -> relay.addTeam());
        Check.same(6, relay.teamCount());
    }

    static void promise2NewTeamHasTheFirstValues() {
        QuillRelay relay = Races.prepared(2);
        Check.same("2 0 false false 0 1000\n"
                + "1 0 0 false 0 0 false false 0 0 60/- 60/- 60/- 60/- -\n"
                + "2 0 0 false 0 0 false false 1 0 60/- 60/- 60/- 60/- -", Races.state(relay));
    }

    static void promise2UndoneTeamComesBackFresh() {
        QuillRelay relay = Races.prepared(1);
        relay.addTeam();
        relay.setSpeed(1, 2, 99);
        relay.undo();
        relay.undo();
        relay.addTeam();
        Check.same(60, relay.speedOf(1, 2));
    }

    static void promise3SpeedIsSetAndThePreviousOneReturned() {
        QuillRelay relay = Races.prepared(2);
        Check.same(60, relay.setSpeed(1, 3, 20));
        Check.same(20, relay.setSpeed(1, 3, 99));
        Check.same(99, relay.speedOf(1, 3));
        Check.same(60, relay.speedOf(1, 2));
        Check.same(60, relay.speedOf(0, 3));
    }

    static void promise3EachRunnerHasItsOwnSpeed() {
        QuillRelay relay = Races.prepared(1);
        for (int leg = 0; leg < 4; leg++) {
            relay.setSpeed(0, leg, 30 + leg);
        }
        for (int leg = 0; leg < 4; leg++) {
            Check.same(30 + leg, relay.speedOf(0, leg));
        }
    }

    static void promise5LanesAreDrawn() {
        QuillRelay relay = Races.prepared(3);
        Check.same(3, relay.drawLanes(7));
        Check.same("3 2 1", lanes(relay));
        QuillRelay six = Races.prepared(6);
        Check.same(3, six.drawLanes(999));
        Check.same("3 5 1 2 4 6", lanes(six));
        // 3, 18, 93, 468, 343 and 718 by 6 to 1 lanes left
        Check.same(4, six.drawLanes(0));
        Check.same("4 5 2 1 6 3", lanes(six));
    }

    static void promise5OneTeamHasLaneOne() {
        Check.same(1, Races.prepared(1).drawLanes(999));
    }

    private static String lanes(QuillRelay relay) {
        StringBuilder text = new StringBuilder();
        for (int team = 0; team < relay.teamCount(); team++) {
            text.append(team == 0 ? "" : " ").append(relay.laneOf(team));
        }
        return text.toString();
    }

    static void promise6StartReturnsTheTeamsAndAllRun() {
        QuillRelay relay = Races.prepared(3);
        Check.same(3, relay.start());
        Check.same(true, relay.isStarted());
        Check.same(3, relay.runningCount());
        Check.same(6, Races.prepared(6).start());
    }
}
