/** Promises 12 to 17. */
final class RaceQuestionsTest {
    private RaceQuestionsTest() {
    }

    static void promise12TeamCount() {
        QuillRelay relay = new QuillRelay();
        Check.same(0, relay.teamCount());
        relay.addTeam();
        relay.addTeam();
        Check.same(2, relay.teamCount());
        relay.start();
        relay.withdraw(0);
        Check.same(2, relay.teamCount());
    }

    static void promise13RunningCount() {
        QuillRelay relay = Races.preparedShort(3);
        Check.same(0, relay.runningCount());
        relay.start();
        Check.same(3, relay.runningCount());
        Races.runToLastLeg(relay);
        relay.drop(1, 20);
        Check.same(3, relay.runningCount());
        relay.withdraw(2);
        Check.same(2, relay.runningCount());
        relay.run(10);
        Check.same(1, relay.runningCount());
    }

    static void promise14IsStarted() {
        QuillRelay relay = Races.prepared(1);
        Check.same(false, relay.isStarted());
        relay.start();
        Check.same(true, relay.isStarted());
        relay.withdraw(0);
        Check.same(true, relay.isStarted());
        Check.same(true, Races.finishedShort().isStarted());
    }

    static void promise15IsFinished() {
        QuillRelay relay = Races.preparedShort(2);
        Check.same(false, relay.isFinished());
        Check.same(false, new QuillRelay().isFinished());
        relay.start();
        Check.same(false, relay.isFinished());
        Races.runToLastLeg(relay);
        relay.withdraw(1);
        relay.run(9);
        Check.same(false, relay.isFinished());
        relay.run(1);
        Check.same(true, relay.isFinished());
    }

    static void promise16Clock() {
        QuillRelay relay = Races.prepared(1);
        Check.same(0, relay.clock());
        relay.start();
        Check.same(0, relay.clock());
        relay.run(1);
        relay.run(41);
        Check.same(42, relay.clock());
        relay.withdraw(0);
        relay.run(8);
        Check.same(50, relay.clock());
    }

    static void promise17Length() {
        QuillRelay relay = Races.prepared(1);
        Check.same(1000, relay.length());
        relay.setLength(1234);
        Check.same(1234, relay.length());
        relay.start();
        Check.same(1234, relay.length());
    }
}
