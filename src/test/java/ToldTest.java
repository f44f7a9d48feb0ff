/** Promises 20 to 27: what is told of gates, people, pools, passes, events and the whole bank. */
public final class ToldTest {
    private static final int UNKNOWN = TurnstileBank.UNKNOWN;
    private static final int BAD_VALUE = TurnstileBank.BAD_VALUE;
    private static final int NOT_POSSIBLE = TurnstileBank.NOT_POSSIBLE;
    private static final int NONE = TurnstileBank.NONE;
    private static final int LEAST = Integer.MIN_VALUE;
    private static final int GREATEST = Integer.MAX_VALUE;

    public static void main(String[] arguments) {
        promise20Gate();
        promise21Queued();
        promise22Person();
        promise22Waits();
        promise23Pool();
        promise24PassOf();
        promise25Event();
        promise25TwentyEvents();
        promise26PassesIn();
        promise26WithinFiveHundred();
        promise27Count();
        promise27LongestQueues();
        tellingChangesNothing();
        Check.end("ToldTest");
    }

    private static void row(String of, int[] got, int... due) {
        for (int i = 0; i < due.length; i++) {
            Check.due(of + ", " + i, got[i], due[i]);
        }
    }

    private static int[] gate(TurnstileBank bank, int gate) {
        int[] all = new int[11];
        for (int what = 0; what < all.length; what++) {
            all[what] = bank.gate(gate, what);
        }
        return all;
    }

    private static int[] person(TurnstileBank bank, int person) {
        int[] all = new int[6];
        for (int what = 0; what < all.length; what++) {
            all[what] = bank.person(person, what);
        }
        return all;
    }

    private static int[] pool(TurnstileBank bank, int pool) {
        int[] all = new int[5];
        for (int what = 0; what < all.length; what++) {
            all[what] = bank.pool(pool, what);
        }
        return all;
    }

    private static int[] event(TurnstileBank bank, int event) {
        int[] all = new int[4];
        for (int what = 0; what < all.length; what++) {
            all[what] = bank.event(event, what);
        }
        return all;
    }

    private static int[] counts(TurnstileBank bank) {
        int[] all = new int[13];
        for (int what = 0; what < all.length; what++) {
            all[what] = bank.count(what);
        }
        return all;
    }

    /** Two gates (in only: 2, 3, 2; out only: 1, 1, 1), two pools (2 and 3), three passes. */
    private static TurnstileBank twoGates() {
        TurnstileBank bank = new TurnstileBank();
        bank.addGate(1, 2, 3, 2);
        bank.addGate(2, 1, 1, 1);
        bank.addPool(2);
        bank.addPool(3);
        bank.credit(0, 50);
        bank.credit(1, 70);
        bank.addPass(0);
        bank.addPass(1);
        bank.addPass(1);
        return bank;
    }

    private static void promise20Gate() {
        TurnstileBank bank = twoGates();
        Check.due("gate -1", bank.gate(-1, 0), UNKNOWN);
        Check.due("gate 2", bank.gate(2, 0), UNKNOWN);
        Check.due("gate 2, what 11", bank.gate(2, 11), UNKNOWN);
        Check.due("gate, least int", bank.gate(LEAST, 0), UNKNOWN);
        Check.due("gate, greatest int", bank.gate(GREATEST, 0), UNKNOWN);
        Check.due("what -1", bank.gate(0, -1), BAD_VALUE);
        Check.due("what 11", bank.gate(0, 11), BAD_VALUE);
        Check.due("what, greatest int", bank.gate(0, GREATEST), BAD_VALUE);
        bank.enter(0, 0, false);
        bank.enter(0, 1, false);
        bank.enter(0, -1, false);
        row("new", gate(bank, 0), 1, 0, 0, NONE, 3, 0, 0, 0, 0, 0, 0);
        bank.pass(1);
        row("opening", gate(bank, 0), 1, 1, 2, 0, 2, 0, 0, 0, 0, 0, 0);
        bank.pass(2);
        row("open", gate(bank, 0), 1, 2, 3, 0, 2, 0, 0, 0, 0, 0, 0);
        bank.pass(3);
        bank.pinch(0);
        row("closing", gate(bank, 0), 1, 3, 2, 0, 2, 0, 0, 0, 0, 0, 1);
        bank.pass(1);
        row("reversing", gate(bank, 0), 1, 4, 1, 0, 2, 0, 0, 0, 0, 1, 0);
        bank.pass(6);
        row("passed", gate(bank, 0), 1, 0, 0, NONE, 2, 0, 1, 0, 0, 1, 0);
        bank.pass(9);
        row("refused", gate(bank, 0), 1, 0, 0, NONE, 0, 0, 2, 0, 1, 1, 0);
        bank.exit(1, 1);
        bank.exit(1, 0);
        row("waiting", gate(bank, 1), 2, 0, 0, NONE, 0, 2, 0, 0, 0, 0, 0);
        bank.pass(5);
        row("one out, one in it", gate(bank, 1), 2, 1, 1, 0, 0, 0, 0, 1, 0, 0, 0);
        bank.fail(1);
        row("out of order", gate(bank, 1), 2, 5, 0, NONE, 0, 0, 0, 2, 0, 0, 0);
    }

    private static void promise21Queued() {
        TurnstileBank bank = twoGates();
        bank.enter(0, 0, false);
        bank.enter(0, 1, false);
        bank.enter(0, 2, false);
        Check.due("gate -1", bank.queued(-1, 0, 0), UNKNOWN);
        Check.due("gate 2", bank.queued(2, 2, -1), UNKNOWN);
        Check.due("end -1", bank.queued(0, -1, 0), BAD_VALUE);
        Check.due("end 2", bank.queued(0, 2, 0), BAD_VALUE);
        Check.due("place -1", bank.queued(0, 0, -1), BAD_VALUE);
        Check.due("place, least int", bank.queued(0, 1, LEAST), BAD_VALUE);
        Check.due("place 0", bank.queued(0, 0, 0), 0);
        Check.due("place 2", bank.queued(0, 0, 2), 2);
        Check.due("place 3", bank.queued(0, 0, 3), NONE);
        Check.due("place 40", bank.queued(0, 0, 40), NONE);
        Check.due("place, greatest int", bank.queued(0, 0, GREATEST), NONE);
        Check.due("inner", bank.queued(0, 1, 0), NONE);
        Check.due("the other gate", bank.queued(1, 0, 0), NONE);
        bank.pass(1);
        Check.due("all are one place nearer", bank.queued(0, 0, 0), 1);
        Check.due("all are one place nearer", bank.queued(0, 0, 1), 2);
        Check.due("all are one place nearer", bank.queued(0, 0, 2), NONE);
        bank.pass(23);
        bank.exit(1, 2);
        bank.exit(1, 0);
        Check.due("inner", bank.queued(1, 1, 0), 2);
        Check.due("inner", bank.queued(1, 1, 1), 0);
        Check.due("outer", bank.queued(1, 0, 0), NONE);
    }

    private static void promise22Person() {
        TurnstileBank bank = twoGates();
        bank.enter(0, 2, true);
        bank.enter(0, -1, false);
        Check.due("person -1", bank.person(-1, 0), UNKNOWN);
        Check.due("person 2", bank.person(2, 0), UNKNOWN);
        Check.due("person 2, what 6", bank.person(2, 6), UNKNOWN);
        Check.due("what -1", bank.person(0, -1), BAD_VALUE);
        Check.due("what 6", bank.person(0, 6), BAD_VALUE);
        row("waits to go in", person(bank, 0), 1, 2, 1, 0, 0, 0);
        bank.pass(1);
        row("in the gate", person(bank, 0), 2, 2, 1, 0, 0, 0);
        row("waits", person(bank, 1), 1, NONE, 0, 0, 0, 1);
        bank.pass(9);
        row("inside", person(bank, 0), 3, 2, 1, NONE, 0, 0);
        row("waits still", person(bank, 1), 1, NONE, 0, 0, 0, 10);
        bank.pass(1);
        row("outside", person(bank, 1), 0, NONE, 0, NONE, 1, 0);
        bank.exit(1, 0);
        row("waits to go out", person(bank, 0), 4, 2, 1, 1, 0, 0);
        bank.pass(1);
        row("in the gate", person(bank, 0), 2, 2, 1, 1, 0, 0);
        bank.pass(5);
        row("gone", person(bank, 0), 5, 2, 1, NONE, 0, 0);
    }

    private static void promise22Waits() {
        TurnstileBank bank = Check.oneGate();
        bank.addGate(1, 1, 1, 1);
        bank.pass(7);
        bank.enter(0, 0, false);
        bank.fail(0);
        bank.pass(3);
        Check.due("waited", bank.person(0, 5), 3);
        bank.divert(0, 1);
        Check.due("waited, here and there", bank.person(0, 5), 3);
        bank.pass(4);
        Check.due("inside", bank.person(0, 5), 0);
        bank.exit(1, 0);
        bank.pass(9);
        Check.due("waits anew", bank.person(0, 5), 9);
    }

    private static void promise23Pool() {
        TurnstileBank bank = twoGates();
        Check.due("pool -1", bank.pool(-1, 0), UNKNOWN);
        Check.due("pool 2", bank.pool(2, 9), UNKNOWN);
        Check.due("what -1", bank.pool(0, -1), BAD_VALUE);
        Check.due("what 5", bank.pool(0, 5), BAD_VALUE);
        row("pool 0", pool(bank, 0), 50, 2, 0, 1, 0);
        row("pool 1", pool(bank, 1), 70, 3, 0, 2, 0);
        bank.enter(0, 1, false);
        bank.enter(0, 2, false);
        row("nobody in yet", pool(bank, 1), 70, 3, 0, 2, 0);
        bank.pass(1);
        row("one in a gate", pool(bank, 1), 60, 3, 1, 2, 10);
        bank.pass(15);
        row("two inside", pool(bank, 1), 50, 3, 2, 2, 20);
        bank.exit(1, 0);
        row("one waits to go out", pool(bank, 1), 50, 3, 2, 2, 20);
        bank.pass(1);
        row("one in a gate", pool(bank, 1), 50, 3, 2, 2, 20);
        bank.pass(3);
        row("one inside", pool(bank, 1), 50, 3, 1, 2, 20);
        bank.credit(1, 1);
        row("credit", pool(bank, 1), 51, 3, 1, 2, 20);
        row("pool 0", pool(bank, 0), 50, 2, 0, 1, 0);
    }

    private static void promise24PassOf() {
        TurnstileBank bank = twoGates();
        Check.due("pass -1", bank.passOf(-1, 0), UNKNOWN);
        Check.due("pass 3", bank.passOf(3, 9), UNKNOWN);
        Check.due("what -1", bank.passOf(0, -1), BAD_VALUE);
        Check.due("what 3", bank.passOf(0, 3), BAD_VALUE);
        Check.due("pool", bank.passOf(0, 0), 0);
        Check.due("pool", bank.passOf(2, 0), 1);
        bank.block(0, true);
        Check.due("blocked", bank.passOf(0, 1), 1);
        bank.enter(0, 1, false);
        bank.enter(0, 2, false);
        Check.due("not in use while it waits", bank.passOf(1, 2), NONE);
        bank.pass(1);
        Check.due("in use", bank.passOf(1, 2), 0);
        bank.pass(15);
        Check.due("in use inside", bank.passOf(1, 2), 0);
        Check.due("in use inside", bank.passOf(2, 2), 1);
        bank.exit(1, 0);
        Check.due("in use while it waits to go out", bank.passOf(1, 2), 0);
        bank.pass(3);
        Check.due("in use in the gate", bank.passOf(1, 2), 0);
        bank.pass(1);
        Check.due("free", bank.passOf(1, 2), NONE);
        bank.enter(0, 1, false);
        bank.pass(8);
        Check.due("used again", bank.passOf(1, 2), 2);
    }

    private static void promise25Event() {
        TurnstileBank bank = twoGates();
        Check.due("event -1", bank.event(-1, 0), BAD_VALUE);
        Check.due("event, least int", bank.event(LEAST, 0), BAD_VALUE);
        Check.due("what -1", bank.event(0, -1), BAD_VALUE);
        Check.due("what 4, no event", bank.event(0, 4), BAD_VALUE);
        Check.due("no event", bank.event(0, 0), NONE);
        Check.due("event, greatest int", bank.event(GREATEST, 3), NONE);
        bank.enter(0, 1, false);
        bank.enter(0, -1, false);
        bank.pass(2);
        row("let in", event(bank, 0), 0, 0, 0, 0);
        Check.due("one event", bank.event(1, 0), NONE);
        bank.pass(7);
        row("refused", event(bank, 0), 8, 0, 1, 1);
        row("inside", event(bank, 1), 7, 0, 0, 2);
        row("let in", event(bank, 2), 0, 0, 0, 0);
        bank.exit(1, 0);
        bank.pinch(1);
        bank.pass(7);
        row("gone", event(bank, 0), 15, 1, 0, 3);
        row("pinched", event(bank, 1), 12, 1, 0, 4);
        bank.fail(1);
        row("out of order", event(bank, 0), 16, 1, NONE, 5);
        bank.pass(1);
        bank.repair(1);
        row("repaired", event(bank, 0), 17, 1, NONE, 6);
        Check.due("seven events", bank.event(6, 3), 0);
        Check.due("seven events", bank.event(7, 3), NONE);
    }

    private static void promise25TwentyEvents() {
        TurnstileBank bank = new TurnstileBank();
        bank.addGate(1, 1, 1, 1);
        for (int person = 0; person < 25; person++) {
            bank.enter(0, -1, false);
        }
        bank.pass(19);
        Check.due("19 events", bank.event(18, 2), 0);
        Check.due("19 events", bank.event(19, 2), NONE);
        bank.pass(1);
        Check.due("20 events", bank.event(19, 2), 0);
        Check.due("20 events", bank.event(20, 2), NONE);
        bank.pass(5);
        for (int event = 0; event < 20; event++) {
            row("event " + event, event(bank, event), 24 - event, 0, 24 - event, 1);
        }
        Check.due("the latest 20", bank.event(20, 2), NONE);
        bank.undo();
        Check.due("undone", bank.event(0, 2), 19);
        Check.due("undone", bank.event(19, 2), 0);
    }

    private static void promise26PassesIn() {
        TurnstileBank bank = twoGates();
        bank.enter(0, 1, false);
        bank.enter(0, 2, true);
        bank.enter(0, -1, false);
        bank.enter(0, 2, false);
        Check.due("person -1", bank.passesIn(-1), UNKNOWN);
        Check.due("person 4", bank.passesIn(4), UNKNOWN);
        int recorded = Check.statesWithRoom(bank);
        Check.due("first", bank.passesIn(0), 8);
        Check.due("second, slow", bank.passesIn(1), 18);
        Check.due("refused then", bank.passesIn(2), NONE);
        Check.due("refused then", bank.passesIn(3), NONE);
        Check.due("no ticks went by", bank.count(0), 0);
        Check.due("it is no act", bank.count(11), recorded);
        bank.pass(3);
        Check.due("in the gate", bank.passesIn(0), 5);
        bank.pinch(0);
        Check.due("a pinch is told", bank.passesIn(0), 10);
        Check.due("for those behind, too", bank.passesIn(1), 20);
        bank.undo();
        bank.pass(4);
        Check.due("the last tick", bank.passesIn(0), 1);
        bank.pass(1);
        Check.due("inside", bank.passesIn(0), NOT_POSSIBLE);
        bank.pass(11);
        Check.due("outside", bank.person(2, 0), 0);
        Check.due("outside", bank.passesIn(2), NOT_POSSIBLE);
        bank.exit(1, 0);
        Check.due("waits to go out", bank.passesIn(0), 4);
        bank.pass(2);
        Check.due("on the way out", bank.passesIn(0), 2);
        bank.pass(2);
        Check.due("gone", bank.passesIn(0), NOT_POSSIBLE);
        bank.exit(0, 1);
        Check.due("in only", bank.passesIn(1), NONE);
        bank.divert(0, 1);
        Check.due("slow out", bank.passesIn(1), 6);
        bank.fail(1);
        Check.due("out of order", bank.passesIn(1), NONE);
    }

    private static void promise26WithinFiveHundred() {
        TurnstileBank bank = new TurnstileBank();
        bank.addGate(1, 10, 20, 10);
        bank.addPool(40);
        bank.credit(0, 1000);
        for (int pass = 0; pass < 12; pass++) {
            bank.addPass(0);
            bank.enter(0, pass, false);
        }
        Check.due("the 12th", bank.passesIn(11), 492);
        bank = new TurnstileBank();
        bank.addGate(1, 10, 20, 10);
        bank.addPool(40);
        bank.credit(0, 1000);
        for (int pass = 0; pass < 12; pass++) {
            bank.addPass(0);
            bank.enter(0, pass, pass < 4);
        }
        Check.due("in 500 ticks", bank.passesIn(11), 500);
        bank.enter(0, -1, false);
        bank.pinch(0);
        Check.due("in more", bank.passesIn(11), NONE);
        Check.due("the one ahead", bank.passesIn(10), 459 + 1 + 1 + 22);
        Check.due("nothing is used", bank.gate(0, 10), 1);
        bank.undo();
        bank.undo();
        bank.setDirection(0, 2);
        Check.due("nobody is served", bank.passesIn(0), NONE);
        bank.setDirection(0, 1);
        Check.due("501 ticks are too many", withRefusalAhead(), NONE);
    }

    /** As above, but with a refusal of one tick at the head. */
    private static int withRefusalAhead() {
        TurnstileBank bank = new TurnstileBank();
        bank.addGate(1, 10, 20, 10);
        bank.addPool(40);
        bank.credit(0, 1000);
        bank.enter(0, -1, false);
        for (int pass = 0; pass < 12; pass++) {
            bank.addPass(0);
            bank.enter(0, pass, pass < 4);
        }
        return bank.passesIn(12);
    }

    private static void promise27Count() {
        TurnstileBank bank = twoGates();
        Check.due("what -1", bank.count(-1), BAD_VALUE);
        Check.due("what 13", bank.count(13), BAD_VALUE);
        Check.due("what, least int", bank.count(LEAST), BAD_VALUE);
        Check.due("what, greatest int", bank.count(GREATEST), BAD_VALUE);
        row("new", counts(bank), 0, 2, 0, 0, 0, 0, 0, 0, 0, 10, 0, 4, 0);
        bank.enter(0, 0, false);
        bank.enter(0, 1, false);
        bank.enter(0, -1, false);
        bank.enter(1, -1, false);
        row("four wait", counts(bank), 0, 2, 4, 0, 4, 0, 0, 0, 0, 10, 0, 4, 0);
        bank.pass(1);
        row("one in a gate", counts(bank), 1, 2, 4, 0, 3, 1, 0, 0, 10, 10, 0, 4, 0);
        bank.setFare(20);
        bank.pass(16);
        row("two inside", counts(bank), 17, 2, 4, 2, 1, 0, 0, 1, 30, 20, 1, 4, 0);
        bank.exit(1, 0);
        bank.exit(0, 1);
        row("waiting to go out", counts(bank), 17, 2, 4, 2, 1, 0, 0, 1, 30, 20, 1, 4, 0);
        bank.pass(1);
        row("one in a gate", counts(bank), 18, 2, 4, 1, 1, 1, 0, 1, 30, 20, 0, 4, 0);
        bank.pass(3);
        Check.type(bank, "t9");
        row("one gone", counts(bank), 21, 2, 4, 1, 1, 0, 1, 1, 30, 20, 0, 4, 2);
        bank.undo();
        Check.due("states", bank.count(11), 3);
    }

    private static void promise27LongestQueues() {
        TurnstileBank bank = new TurnstileBank();
        Check.due("without gates", bank.count(10), NONE);
        bank.addGate(1, 1, 1, 1);
        bank.addGate(1, 1, 1, 1);
        bank.addGate(1, 1, 1, 1);
        bank.addPool(9);
        bank.credit(0, 1000);
        bank.addPass(0);
        bank.addPass(0);
        Check.due("all empty", bank.count(10), 0);
        bank.enter(1, 0, false);
        bank.enter(2, 1, false);
        Check.due("the lowest of two", bank.count(10), 1);
        bank.enter(2, -1, false);
        Check.due("the longest", bank.count(10), 2);
        bank.pass(5);
        bank.exit(1, 0);
        bank.exit(0, 1);
        bank.setDirection(1, 2);
        bank.enter(1, -1, false);
        Check.due("both queues together", bank.count(10), 1);
    }

    private static TurnstileBank busy() {
        TurnstileBank bank = twoGates();
        Check.runText(bank, "i0p0i0p1si0t9o1n0t2x1");
        bank.undo();
        bank.run();
        return bank;
    }

    private static int askAll(TurnstileBank bank) {
        for (int number = -1; number <= 3; number++) {
            for (int what = -1; what <= 11; what++) {
                bank.gate(number, what);
                bank.person(number, what);
                bank.pool(number, what);
                bank.passOf(number, what);
                bank.event(number, what);
            }
            bank.passesIn(number);
            bank.queued(number, 0, 0);
        }
        return bank.count(11);
    }

    private static void tellingChangesNothing() {
        Check.due("all is as before", Whole.state(Whole.then(ToldTest::busy, x -> x.passesIn(0)))
                .equals(Whole.state(ToldTest::busy)));
        TurnstileBank bank = busy();
        int states = bank.count(11);
        Check.due("nothing is recorded", askAll(bank), states);
        Check.due("nothing is recorded", bank.undo(), states - 1);
    }
}
