/** Promises 1 to 8: a new object, gates, pools, passes, the fare. */
public final class GatesPoolsPassesTest {
    private static final int UNKNOWN = TurnstileBank.UNKNOWN;
    private static final int BAD_VALUE = TurnstileBank.BAD_VALUE;
    private static final int FULL = TurnstileBank.FULL;
    private static final int NOT_POSSIBLE = TurnstileBank.NOT_POSSIBLE;
    private static final int NONE = TurnstileBank.NONE;

    public static void main(String[] arguments) {
        constants();
        promise1NewObject();
        promise2AddGate();
        promise3SetDirection();
        promise4AddPool();
        promise5Credit();
        promise6AddPass();
        promise7Block();
        promise8SetFare();
        Check.end("GatesPoolsPassesTest");
    }

    private static void constants() {
        Check.due("UNKNOWN", UNKNOWN, -1);
        Check.due("BAD_VALUE", BAD_VALUE, -2);
        Check.due("FULL", FULL, -3);
        Check.due("NOT_POSSIBLE", NOT_POSSIBLE, -4);
        Check.due("NONE", NONE, -5);
    }

    private static void promise1NewObject() {
        TurnstileBank bank = new TurnstileBank();
        int[] due = {0, 0, 0, 0, 0, 0, 0, 0, 0, 10, NONE, 0, 0};
        for (int what = 0; what < due.length; what++) {
            Check.due("new: count(" + what + ")", bank.count(what), due[what]);
        }
        Check.due("new: gate(0, 0)", bank.gate(0, 0), UNKNOWN);
        Check.due("new: pool(0, 0)", bank.pool(0, 0), UNKNOWN);
        Check.due("new: passOf(0, 0)", bank.passOf(0, 0), UNKNOWN);
        Check.due("new: person(0, 0)", bank.person(0, 0), UNKNOWN);
        Check.due("new: event(0, 0)", bank.event(0, 0), NONE);
        Check.due("new: undo()", bank.undo(), NONE);
        bank.addGate(0, 1, 1, 1);
        Check.due("objects are apart", new TurnstileBank().count(1), 0);
    }

    private static void promise2AddGate() {
        TurnstileBank bank = new TurnstileBank();
        int[][] wrong = {{-1, 1, 1, 1}, {3, 1, 1, 1}, {0, 0, 1, 1}, {0, 11, 1, 1}, {0, 1, 0, 1},
            {0, 1, 21, 1}, {0, 1, 1, 0}, {0, 1, 1, 11}, {Integer.MIN_VALUE, 1, 1, 1},
            {0, Integer.MAX_VALUE, 1, 1}};
        for (int[] row : wrong) {
            Check.due("addGate, out of range", bank.addGate(row[0], row[1], row[2], row[3]),
                    BAD_VALUE);
        }
        Check.due("nothing was recorded", bank.count(11), 0);
        Check.due("addGate(2, 10, 20, 10)", bank.addGate(2, 10, 20, 10), 0);
        Check.due("addGate(1, 1, 1, 1)", bank.addGate(1, 1, 1, 1), 1);
        Check.due("it is an act", bank.count(11), 2);
        Check.due("direction", bank.gate(0, 0), 2);
        Check.due("direction", bank.gate(1, 0), 1);
        int[] fresh = {0, 0, NONE, 0, 0, 0, 0, 0, 0, 0};
        for (int what = 1; what <= 10; what++) {
            Check.due("new gate: gate(1, " + what + ")", bank.gate(1, what), fresh[what - 1]);
        }
        for (int gate = 2; gate < 8; gate++) {
            Check.due("addGate " + gate, bank.addGate(0, 1, 1, 1), gate);
        }
        Check.due("a ninth gate", bank.addGate(0, 1, 1, 1), FULL);
        Check.due("a ninth gate, out of range", bank.addGate(3, 1, 1, 1), BAD_VALUE);
        Check.due("gates", bank.count(1), 8);
        timesOfAGate();
        addedAgainAfterUndo();
    }

    private static void timesOfAGate() {
        TurnstileBank bank = new TurnstileBank();
        bank.addPool(1);
        bank.credit(0, 100);
        bank.addPass(0);
        bank.addGate(0, 3, 4, 5);
        bank.enter(0, 0, false);
        int[] states = {1, 1, 1, 2, 2, 2, 2, 3, 3, 3, 3, 3, 0};
        int[] left = {3, 2, 1, 4, 3, 2, 1, 5, 4, 3, 2, 1, 0};
        for (int tick = 0; tick < states.length; tick++) {
            Check.due("passed in tick " + tick, bank.pass(1), tick == 12 ? 1 : 0);
            Check.due("state behind tick " + tick, bank.gate(0, 1), states[tick]);
            Check.due("time left behind tick " + tick, bank.gate(0, 2), left[tick]);
            Check.due("person behind tick " + tick, bank.gate(0, 3), tick == 12 ? NONE : 0);
        }
    }

    private static void addedAgainAfterUndo() {
        TurnstileBank bank = Check.oneGate();
        bank.addGate(1, 1, 1, 1);
        Check.runText(bank, "x1i1p0t2");
        bank.enter(1, 1, false);
        bank.undo();
        bank.undo();
        bank.undo();
        Check.due("gates after undo", bank.count(1), 1);
        Check.due("added again", bank.addGate(2, 2, 2, 2), 1);
        int[] fresh = {2, 0, 0, NONE, 0, 0, 0, 0, 0, 0, 0};
        for (int what = 0; what <= 10; what++) {
            Check.due("added again: gate(1, " + what + ")", bank.gate(1, what), fresh[what]);
        }
        Check.due("its queue is empty", bank.queued(1, 0, 0), NONE);
    }

    private static void promise3SetDirection() {
        TurnstileBank bank = new TurnstileBank();
        Check.due("no gate", bank.setDirection(0, 0), UNKNOWN);
        Check.due("no gate, out of range", bank.setDirection(0, 9), UNKNOWN);
        bank.addGate(0, 1, 1, 1);
        bank.enter(0, -1, false);
        Check.due("gate -1", bank.setDirection(-1, 0), UNKNOWN);
        Check.due("gate 1", bank.setDirection(1, 0), UNKNOWN);
        Check.due("direction -1", bank.setDirection(0, -1), BAD_VALUE);
        Check.due("direction 3", bank.setDirection(0, 3), BAD_VALUE);
        Check.due("recorded so far", bank.count(11), 2);
        Check.due("setDirection(0, 2)", bank.setDirection(0, 2), 0);
        Check.due("setDirection(0, 1)", bank.setDirection(0, 1), 2);
        Check.due("setDirection(0, 2)", bank.setDirection(0, 2), 1);
        Check.due("the same again", bank.setDirection(0, 2), 2);
        Check.due("these are acts", bank.count(11), 4);
        bank.pass(5);
        Check.due("out only: who wants in stays", bank.queued(0, 0, 0), 0);
        bank.setDirection(0, 1);
        bank.pass(1);
        Check.due("in only: who wants in comes", bank.person(0, 4), 1);
    }

    private static void promise4AddPool() {
        TurnstileBank bank = new TurnstileBank();
        Check.due("limit 0", bank.addPool(0), BAD_VALUE);
        Check.due("limit 41", bank.addPool(41), BAD_VALUE);
        Check.due("limit, least int", bank.addPool(Integer.MIN_VALUE), BAD_VALUE);
        Check.due("limit 1", bank.addPool(1), 0);
        Check.due("limit 40", bank.addPool(40), 1);
        Check.due("a third", bank.addPool(7), 2);
        Check.due("a fourth", bank.addPool(7), 3);
        Check.due("a fifth", bank.addPool(7), FULL);
        Check.due("a fifth, out of range", bank.addPool(0), BAD_VALUE);
        Check.due("these are acts", bank.count(11), 4);
        int[] fresh = {0, 7, 0, 0, 0};
        for (int what = 0; what <= 4; what++) {
            Check.due("new pool: pool(2, " + what + ")", bank.pool(2, what), fresh[what]);
        }
    }

    private static void promise5Credit() {
        TurnstileBank bank = new TurnstileBank();
        Check.due("no pool", bank.credit(0, 0), UNKNOWN);
        bank.addPool(1);
        bank.addPool(1);
        Check.due("pool -1", bank.credit(-1, 1), UNKNOWN);
        Check.due("pool 2", bank.credit(2, 1), UNKNOWN);
        Check.due("amount 0", bank.credit(0, 0), BAD_VALUE);
        Check.due("amount -1", bank.credit(0, -1), BAD_VALUE);
        Check.due("amount 100001", bank.credit(0, 100001), BAD_VALUE);
        Check.due("amount, greatest int", bank.credit(0, Integer.MAX_VALUE), BAD_VALUE);
        Check.due("amount 1", bank.credit(0, 1), 1);
        Check.due("it is an act", bank.count(11), 3);
        for (int i = 1; i <= 9; i++) {
            Check.due("100000 more", bank.credit(0, 100000), 1 + 100000 * i);
        }
        Check.due("one above", bank.credit(0, 100000), NOT_POSSIBLE);
        Check.due("one above changes nothing", bank.pool(0, 0), 900001);
        Check.due("up to the most", bank.credit(0, 99999), 1000000);
        Check.due("above the most", bank.credit(0, 1), NOT_POSSIBLE);
        Check.due("the other pool", bank.pool(1, 0), 0);
    }

    private static void promise6AddPass() {
        TurnstileBank bank = new TurnstileBank();
        Check.due("no pool", bank.addPass(0), UNKNOWN);
        bank.addPool(1);
        bank.addPool(1);
        Check.due("pool -1", bank.addPass(-1), UNKNOWN);
        Check.due("pool 2", bank.addPass(2), UNKNOWN);
        for (int pass = 0; pass < 12; pass++) {
            Check.due("pass " + pass, bank.addPass(pass % 2), pass);
        }
        Check.due("these are acts", bank.count(11), 4);
        Check.due("a 13th", bank.addPass(0), FULL);
        Check.due("a 13th, no pool", bank.addPass(2), UNKNOWN);
        Check.due("its pool", bank.passOf(4, 0), 0);
        Check.due("its pool", bank.passOf(5, 0), 1);
        Check.due("it is valid", bank.passOf(5, 1), 0);
        Check.due("it is not in use", bank.passOf(5, 2), NONE);
        Check.due("passes of the pool", bank.pool(0, 3), 6);
    }

    private static void promise7Block() {
        TurnstileBank bank = Check.oneGate();
        Check.due("pass -1", bank.block(-1, true), UNKNOWN);
        Check.due("pass 12", bank.block(12, true), UNKNOWN);
        int recorded = Check.statesWithRoom(bank);
        Check.due("valid already", bank.block(3, false), NONE);
        Check.due("that is not recorded", bank.count(11), recorded);
        Check.due("block(3, true)", bank.block(3, true), 1);
        Check.due("that is recorded", bank.count(11), recorded + 1);
        Check.due("blocked already", bank.block(3, true), NONE);
        Check.due("block(11, true)", bank.block(11, true), 2);
        Check.due("passOf(3, 1)", bank.passOf(3, 1), 1);
        Check.due("passOf(4, 1)", bank.passOf(4, 1), 0);
        Check.due("block(3, false)", bank.block(3, false), 1);
        Check.due("passOf(3, 1)", bank.passOf(3, 1), 0);
        Check.due("block(11, false)", bank.block(11, false), 0);
        Check.due("block(0, true)", bank.block(0, true), 1);
        blockedWhileInside();
    }

    private static void blockedWhileInside() {
        TurnstileBank bank = Check.oneGate();
        bank.enter(0, 0, false);
        bank.pass(4);
        bank.block(0, true);
        bank.exit(0, 0);
        Check.due("out with a blocked pass", bank.pass(4), 1);
        Check.due("gone", bank.person(0, 0), 5);
    }

    private static void promise8SetFare() {
        TurnstileBank bank = Check.oneGate();
        Check.due("fare -1", bank.setFare(-1), BAD_VALUE);
        Check.due("fare 1001", bank.setFare(1001), BAD_VALUE);
        Check.due("the fare as it was", bank.count(9), 10);
        Check.due("setFare(1000)", bank.setFare(1000), 10);
        Check.due("setFare(0)", bank.setFare(0), 1000);
        Check.due("setFare(0) again", bank.setFare(0), 0);
        Check.due("undo()", bank.undo(), 3);
        Check.due("undo()", bank.undo(), 2);
        Check.due("the fare before", bank.count(9), 1000);
        Check.due("setFare(7)", bank.setFare(7), 1000);
        bank.enter(0, 0, false);
        bank.setFare(11);
        bank.pass(1);
        Check.due("the fare of the moment is paid", bank.pool(0, 4), 11);
        Check.due("from the credit", bank.pool(0, 0), 989);
    }
}
