/** The boundary cases that the document names for promises 1 to 6. */
final class PreparingEdgesTest {
    private PreparingEdgesTest() {
    }

    /** "Creates a prepared race without teams." */
    static void promise1NoTeamCanBeAskedFor() {
        QuillRelay relay = new QuillRelay();
        Check.fails(Refused.INDEX, () -> relay.laneOf(0));
        Check.fails(Refused.NO_ELEMENT, () -> relay.teamInLane(1));
        Check.fails(Refused.NO_ELEMENT, () -> relay.teamAtRank(0));
        Check.fails(Refused.ARITHMETIC, () -> relay.meanTime());
    }

    static void promise1NothingIsRememberedAtFirst() {
        QuillRelay relay = new QuillRelay();
        Check.fails(Refused.NO_ELEMENT, () -> relay.refusalReason());
        Check.fails(Refused.NO_ELEMENT, () -> relay.refusedTeam());
        Check.fails(Refused.NO_ELEMENT, () -> relay.errorPosition());
        Check.fails(Refused.NO_ELEMENT, () -> relay.failedCommand());
        Check.fails(Refused.INDEX, () -> relay.bannerAt(0));
        Check.fails(Refused.STATE, () -> relay.undo());
        Check.fails(Refused.STATE, () -> relay.restore());
        Check.same(1, relay.type(' '));
    }

    static void promise1WornObjectLeavesTheNextOneNew() {
        Worn.finished();
        promise1NoTeamCanBeAskedFor();
        promise1NothingIsRememberedAtFirst();
    }

    /** "At most 6 teams exist, numbered from 0." */
    static void promise2SixthTeamIsTheLast() {
        QuillRelay relay = Races.prepared(5);
        Check.same(5, relay.addTeam());
        Check.same(6, relay.teamCount());
        Refused.with(Refused.STATE, () -> Races.prepared(6), full -> full.addTeam());
    }

    static void promise2PlaceOfAnUndoneTeamIsFreeAgain() {
        QuillRelay relay = Races.prepared(6);
        relay.undo();
        Check.same(5, relay.addTeam());
        Check.fails(Refused.STATE, () -> relay.addTeam());
    }

    static void promise2RefusedWhenTheRaceIsStarted() {
        Refused.with(Refused.STATE, Worn::started, relay -> relay.addTeam());
    }

    static void promise2RefusedWhenTheRaceIsFinished() {
        Refused.with(Refused.STATE, Worn::finished, relay -> relay.addTeam());
    }

    /** "A team that is added after the lanes have been drawn has the lane that is its number plus 1." */
    static void promise2LaneOfEachTeamThatIsAddedAfterADraw() {
        QuillRelay relay = Races.prepared(1);
        for (int team = 1; team < 6; team++) {
            relay.drawLanes(0);
            relay.addTeam();
            Check.same(team + 1, relay.laneOf(team));
        }
    }

    static void promise3TeamNumbers() {
        Refused.with(Refused.INDEX, QuillRelay::new, relay -> relay.setSpeed(0, 0, 50));
        Refused.with(Refused.INDEX, Worn::prepared, relay -> relay.setSpeed(-1, 0, 50));
        Refused.with(Refused.INDEX, Worn::prepared, relay -> relay.setSpeed(3, 0, 50));
        Refused.with(Refused.INDEX, () -> Races.prepared(6), relay -> relay.setSpeed(6, 0, 50));
        QuillRelay relay = Races.prepared(6);
        Check.same(60, relay.setSpeed(0, 0, 50));
        Check.same(60, relay.setSpeed(5, 0, 50));
        for (int wrong : Refused.EXTREMES) {
            Check.fails(Refused.INDEX, () -> relay.setSpeed(wrong, 0, 50));
        }
    }

    /** "the leg of the runner, 0 to 3" */
    static void promise3Legs() {
        Refused.with(Refused.INDEX, Worn::prepared, relay -> relay.setSpeed(0, -1, 70));
        Refused.with(Refused.INDEX, Worn::prepared, relay -> relay.setSpeed(0, 4, 70));
        QuillRelay relay = Races.prepared(2);
        Check.same(60, relay.setSpeed(1, 0, 70));
        Check.same(60, relay.setSpeed(1, 3, 70));
        for (int wrong : Refused.EXTREMES) {
            Check.fails(Refused.INDEX, () -> relay.setSpeed(0, wrong, 50));
        }
    }

    /** "the speed, 20 to 99" */
    static void promise3Speeds() {
        Refused.with(Refused.ARGUMENT, Worn::prepared, relay -> relay.setSpeed(0, 0, 19));
        Refused.with(Refused.ARGUMENT, Worn::prepared, relay -> relay.setSpeed(2, 3, 100));
        QuillRelay relay = Races.prepared(1);
        Check.same(60, relay.setSpeed(0, 0, 20));
        Check.same(20, relay.setSpeed(0, 0, 99));
        Check.same(99, relay.speedOf(0, 0));
        for (int wrong : Refused.EXTREMES) {
            Check.fails(Refused.ARGUMENT, () -> relay.setSpeed(0, 0, wrong));
        }
    }

    static void promise3RefusedWhenTheRaceIsNotPrepared() {
        Refused.with(Refused.STATE, Worn::started, relay -> relay.setSpeed(0, 0, 70));
        Refused.with(Refused.STATE, Worn::finished, relay -> relay.setSpeed(2, 3, 70));
    }

    /** "If several exceptions apply, the one that is documented first is thrown." */
    static void promise3OrderOfExceptions() {
        Refused.with(Refused.INDEX, Worn::prepared, relay -> relay.setSpeed(3, 0, 19));
        Refused.with(Refused.INDEX, Worn::prepared, relay -> relay.setSpeed(0, 4, 100));
        Refused.with(Refused.INDEX, Worn::started, relay -> relay.setSpeed(-1, 0, 50));
        Refused.with(Refused.INDEX, Worn::started, relay -> relay.setSpeed(0, -1, 50));
        Refused.with(Refused.ARGUMENT, Worn::started, relay -> relay.setSpeed(0, 0, 19));
        Refused.with(Refused.ARGUMENT, Worn::finished, relay -> relay.setSpeed(0, 0, 100));
        Refused.with(Refused.INDEX, Worn::finished, relay -> relay.setSpeed(3, 4, 100));
    }

    /** "the length, 400 to 4000" */
    static void promise4Lengths() {
        Refused.with(Refused.ARGUMENT, Worn::prepared, relay -> relay.setLength(399));
        Refused.with(Refused.ARGUMENT, Worn::prepared, relay -> relay.setLength(4001));
        QuillRelay relay = new QuillRelay();
        Check.same(1000, relay.setLength(400));
        Check.same(400, relay.setLength(4000));
        Check.same(4000, relay.length());
        for (int wrong : Refused.EXTREMES) {
            Check.fails(Refused.ARGUMENT, () -> relay.setLength(wrong));
        }
    }

    static void promise4RefusedWhenTheRaceIsNotPrepared() {
        Refused.with(Refused.STATE, Worn::started, relay -> relay.setLength(400));
        Refused.with(Refused.STATE, Worn::finished, relay -> relay.setLength(4000));
    }

    static void promise4OrderOfExceptions() {
        Refused.with(Refused.ARGUMENT, Worn::started, relay -> relay.setLength(399));
        Refused.with(Refused.ARGUMENT, Worn::finished, relay -> relay.setLength(4001));
    }

    /** "the seed, 0 to 999" */
    static void promise5Seeds() {
        Refused.with(Refused.ARGUMENT, Worn::prepared, relay -> relay.drawLanes(-1));
        Refused.with(Refused.ARGUMENT, Worn::prepared, relay -> relay.drawLanes(1000));
        Check.same("1 2 3", lanes(3, 0));
        Check.same("3 2 1", lanes(3, 999));
        QuillRelay relay = Races.prepared(2);
        for (int wrong : Refused.EXTREMES) {
            Check.fails(Refused.ARGUMENT, () -> relay.drawLanes(wrong));
        }
    }

    /** With 199, x is 998 and then again above 1000; with 200 it is 1003 % 1000, so that the lanes are those of the seed 0. */
    static void promise5SeedIsTakenRoundAtOneThousand() {
        String[] lanes199 = {"1", "1 2", "3 2 1", "3 1 2 4", "4 2 5 3 1", "3 5 1 2 4 6"};
        String[] lanes200 = {"1", "2 1", "1 2 3", "4 1 3 2", "4 3 1 2 5", "4 5 2 1 6 3"};
        for (int teams = 1; teams <= 6; teams++) {
            Check.same(lanes199[teams - 1], lanes(teams, 199));
            Check.same(lanes200[teams - 1], lanes(teams, 200));
            Check.same(lanes200[teams - 1], lanes(teams, 0));
        }
    }

    private static String lanes(int teams, int seed) {
        QuillRelay relay = Races.prepared(teams);
        Check.same("" + relay.drawLanes(seed), "" + relay.laneOf(0));
        StringBuilder text = new StringBuilder();
        for (int team = 0; team < teams; team++) {
            text.append(team == 0 ? "" : " ").append(relay.laneOf(team));
        }
        return text.toString();
    }

    /** All lanes are left at the beginning of each draw, also of the second one. */
    static void promise5SecondDrawBeginsAnew() {
        QuillRelay relay = Races.prepared(6);
        relay.drawLanes(199);
        relay.drawLanes(0);
        Check.same(4, relay.laneOf(0));
        Check.same(3, relay.laneOf(5));
    }

    static void promise5RefusedWithoutTeams() {
        Refused.with(Refused.STATE, QuillRelay::new, relay -> relay.drawLanes(0));
        Check.same(1, Races.prepared(1).drawLanes(0));
    }

    static void promise5RefusedWhenTheRaceIsNotPrepared() {
        Refused.with(Refused.STATE, Worn::started, relay -> relay.drawLanes(0));
        Refused.with(Refused.STATE, Worn::finished, relay -> relay.drawLanes(999));
    }

    static void promise5OrderOfExceptions() {
        Refused.with(Refused.ARGUMENT, QuillRelay::new, relay -> relay.drawLanes(-1));
        Refused.with(Refused.ARGUMENT, QuillRelay::new, relay -> relay.drawLanes(1000));
        Refused.with(Refused.ARGUMENT, Worn::started, relay -> relay.drawLanes(-1));
        Refused.with(Refused.ARGUMENT, Worn::finished, relay -> relay.drawLanes(1000));
    }

    static void promise6RefusedWithoutTeams() {
        Refused.with(Refused.STATE, QuillRelay::new, relay -> relay.start());
        Refused.with(Refused.STATE, PreparingEdgesTest::withTeamUndone, relay -> relay.start());
        Check.same(1, Races.prepared(1).start());
        Check.same(6, Races.prepared(6).start());
    }

    private static QuillRelay withTeamUndone() {
        QuillRelay relay = Races.prepared(1);
        relay.undo();
        return relay;
    }

    static void promise6RefusedWhenTheRaceIsStarted() {
        Refused.with(Refused.STATE, () -> Races.started(1), relay -> relay.start());
        Refused.with(Refused.STATE, Worn::started, relay -> relay.start());
    }

    static void promise6RefusedWhenTheRaceIsFinished() {
        Refused.with(Refused.STATE, Worn::finished, relay -> relay.start());
    }

    /** An undone start can be made again, and the race can be prepared in between. */
    static void promise6PossibleAgainAfterUndo() {
        QuillRelay relay = Races.started(1);
        relay.undo();
        Check.same(1, relay.addTeam());
        Check.same(2, relay.start());
    }
}
