/** Promises 1 to 6. */
final class PreparingTest {
    private PreparingTest() {
    }

    static void promise1NewObjectIsPreparedRaceWithoutTeams() {
        QuillRelay relay = new QuillRelay();
        Check.same("0 0 false false 0 1000", Races.state(relay));
        Check.fails(IllegalStateException.class, () -> relay.undo());
        Check.fails(IllegalStateException.class, () -> relay.restore());
        Check.same(0, relay.addTeam());
    }

    static void promise1ObjectsAreIndependent() {
        QuillRelay first = Races.started(2);
        QuillRelay second = new QuillRelay();
        first.run(5);
        Check.same("0 0 false false 0 1000", Races.state(second));
    }

    static void promise2TeamsAreNumberedFromZero() {
        QuillRelay relay = new QuillRelay();
        for (int team = 0; team < 6; team++) {
            Check.same(team, relay.addTeam());
            Check.same(team + 1, relay.teamCount());
        }
        Check.fails(IllegalStateException.class, () -> relay.addTeam());
        Check.same(6, relay.teamCount());
    }

    static void promise2NewTeamHasTheFirstValues() {
        QuillRelay relay = Races.prepared(2);
        Check.same("2 0 false false 0 1000\n"
                + "1 0 0 false 0 0 false false 0 0 60/- 60/- 60/- 60/- -\n"
                + "2 0 0 false 0 0 false false 1 0 60/- 60/- 60/- 60/- -", Races.state(relay));
    }

    static void promise2OnlyWhilePrepared() {
        QuillRelay relay = Races.started(1);
        Check.fails(IllegalStateException.class, () -> relay.addTeam());
        relay.withdraw(0);
        Check.fails(IllegalStateException.class, () -> relay.addTeam());
        Check.same(1, relay.teamCount());
    }

    static void promise2TeamAddedAfterTheDrawHasItsNumberPlusOne() {
        QuillRelay relay = Races.prepared(3);
        relay.drawLanes(7);
        relay.addTeam();
        Check.same(4, relay.laneOf(3));
        Check.same(3, relay.laneOf(0));
    }

    static void promise2UndoneTeamComesBackFresh() {
        QuillRelay relay = Races.prepared(1);
        relay.addTeam();
        relay.setSpeed(1, 2, 99);
        relay.undo();
        relay.undo();
        relay.addTeam();
        Check.same(60, relay.speedOf(1, 2));
    }

    static void promise3SpeedIsSetAndThePreviousOneReturned() {
        QuillRelay relay = Races.prepared(2);
        Check.same(60, relay.setSpeed(1, 3, 20));
        Check.same(20, relay.setSpeed(1, 3, 99));
        Check.same(99, relay.speedOf(1, 3));
        Check.same(60, relay.speedOf(1, 2));
        Check.same(60, relay.speedOf(0, 3));
    }

    static void promise3EachRunnerHasItsOwnSpeed() {
        QuillRelay relay = Races.prepared(1);
        for (int leg = 0; leg < 4; leg++) {
            relay.setSpeed(0, leg, 30 + leg);
        }
        for (int leg = 0; leg < 4; leg++) {
            Check.same(30 + leg, relay.speedOf(0, leg));
        }
    }

    static void promise3Refusals() {
        QuillRelay relay = Races.prepared(1);
        int[][] wrongIndexes = {{-1, 0}, {1, 0}, {6, 0}, {0, -1}, {0, 4}, {Integer.MAX_VALUE, 0}, {0, Integer.MIN_VALUE}};
        for (int[] wrong : wrongIndexes) {
            Check.fails(IndexOutOfBoundsException.class, () -> relay.setSpeed(wrong[0], wrong[1], 50));
            Check.fails(IndexOutOfBoundsException.class, () -> relay.setSpeed(wrong[0], wrong[1], 19));
        }
        for (int wrong : new int[] {19, 100, 0, -60, Integer.MAX_VALUE}) {
            Check.fails(IllegalArgumentException.class, () -> relay.setSpeed(0, 0, wrong));
        }
        relay.start();
        Check.fails(IllegalStateException.class, () -> relay.setSpeed(0, 0, 50));
        Check.fails(IllegalArgumentException.class, () -> relay.setSpeed(0, 0, 100));
        Check.fails(IndexOutOfBoundsException.class, () -> relay.setSpeed(1, 0, 100));
        Check.same(60, relay.speedOf(0, 0));
    }

    static void promise4LengthIsSetAndThePreviousOneReturned() {
        QuillRelay relay = new QuillRelay();
        Check.same(1000, relay.setLength(400));
        Check.same(400, relay.setLength(4000));
        Check.same(4000, relay.length());
    }

    static void promise4Refusals() {
        QuillRelay relay = Races.prepared(1);
        for (int wrong : new int[] {399, 4001, 0, -1000, Integer.MAX_VALUE, Integer.MIN_VALUE}) {
            Check.fails(IllegalArgumentException.class, () -> relay.setLength(wrong));
        }
        relay.start();
        Check.fails(IllegalStateException.class, () -> relay.setLength(500));
        Check.fails(IllegalArgumentException.class, () -> relay.setLength(399));
        Check.same(1000, relay.length());
    }

    static void promise5LanesAreDrawn() {
        QuillRelay relay = Races.prepared(3);
        Check.same(3, relay.drawLanes(7));
        Check.same("3 2 1", lanes(relay));
        QuillRelay six = Races.prepared(6);
        Check.same(3, six.drawLanes(999));
        Check.same("3 5 1 2 4 6", lanes(six));
        // 3, 18, 93, 468, 343 and 718 by 6 to 1 lanes left
        Check.same(4, six.drawLanes(0));
        Check.same("4 5 2 1 6 3", lanes(six));
    }

    static void promise5OneTeamHasLaneOne() {
        Check.same(1, Races.prepared(1).drawLanes(999));
    }

    private static String lanes(QuillRelay relay) {
        StringBuilder text = new StringBuilder();
        for (int team = 0; team < relay.teamCount(); team++) {
            text.append(team == 0 ? "" : " ").append(relay.laneOf(team));
        }
        return text.toString();
    }

    static void promise5Refusals() {
        QuillRelay relay = new QuillRelay();
        Check.fails(IllegalStateException.class, () -> relay.drawLanes(0));
        Check.fails(IllegalArgumentException.class, () -> relay.drawLanes(-1));
        Check.fails(IllegalArgumentException.class, () -> relay.drawLanes(1000));
        relay.addTeam();
        Check.fails(IllegalArgumentException.class, () -> relay.drawLanes(1000));
        relay.start();
        Check.fails(IllegalStateException.class, () -> relay.drawLanes(0));
        Check.fails(IllegalArgumentException.class, () -> relay.drawLanes(-1));
    }

    static void promise6StartReturnsTheTeamsAndAllRun() {
        QuillRelay relay = Races.prepared(3);
        Check.same(3, relay.start());
        Check.same(true, relay.isStarted());
        Check.same(3, relay.runningCount());
        Check.same(6, Races.prepared(6).start());
    }

    static void promise6Refusals() {
        QuillRelay relay = new QuillRelay();
        Check.fails(IllegalStateException.class, () -> relay.start());
        Check.same(false, relay.isStarted());
        relay.addTeam();
        relay.start();
        Check.fails(IllegalStateException.class, () -> relay.start());
        relay.withdraw(0);
        Check.fails(IllegalStateException.class, () -> relay.start());
        Check.same(0, relay.runningCount());
    }
}
