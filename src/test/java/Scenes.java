/** Banks in which something is going on already; each is made the same way each time. */
final class Scenes {
    static final int CLOSED = 0;
    static final int OPENING = 1;
    static final int OPEN = 2;
    static final int CLOSING = 3;
    static final int REVERSING = 4;
    static final int OUT_OF_ORDER = 5;

    private Scenes() {
    }

    /** One gate, in only, of these times, and a pool of 40 with 1000 and 12 passes. */
    static TurnstileBank inOnly(int opening, int hold, int closing) {
        TurnstileBank bank = new TurnstileBank();
        bank.addGate(1, opening, hold, closing);
        withPasses(bank);
        return bank;
    }

    /** Gates of 1, 1, 1 with these directions, and a pool of 40 with 1000 and 12 passes. */
    static TurnstileBank gates(int... directions) {
        TurnstileBank bank = new TurnstileBank();
        for (int direction : directions) {
            bank.addGate(direction, 1, 1, 1);
        }
        withPasses(bank);
        return bank;
    }

    private static void withPasses(TurnstileBank bank) {
        bank.addPool(40);
        bank.credit(0, 1000);
        for (int i = 0; i < 12; i++) {
            bank.addPass(0);
        }
    }

    /**
     * Leaves 3 of the 4 states or more that there were, the latest one of an act: behind an undo()
     * the state that is to be recorded next could be one that is left from before.
     */
    private static void leaveThreeStates(TurnstileBank bank) {
        bank.setFare(7);
        bank.setFare(8);
        bank.undo();
        bank.undo();
        bank.setFare(10);
    }

    /**
     * Gate 0 (in only; 2, 2, 2) is in a state; if it is at work, person 0 is in it. Person 1 waits
     * outside. The history is left with at most 3 states.
     */
    static TurnstileBank gateIn(int state) {
        TurnstileBank bank = inOnly(2, 2, 2);
        if (state == CLOSED || state == OUT_OF_ORDER) {
            bank.setDirection(0, 2);
        }
        bank.enter(0, 0, false);
        bank.enter(0, 1, false);
        if (state == OUT_OF_ORDER) {
            bank.fail(0);
        }
        int[] ticks = {1, 1, 3, 5, 5, 1};
        bank.pass(ticks[state]);
        if (state == REVERSING) {
            bank.pinch(0);
            bank.pass(1);
        }
        leaveThreeStates(bank);
        return bank;
    }

    static TurnstileBank closing() {
        return gateIn(CLOSING);
    }

    /**
     * Gate 0 lets in, gate 1 lets out and is out of order. Person 0 is gone, 1 waits to go out at
     * gate 1, 2 is inside, 3 was refused, 4 is in gate 0, 5 waits there. At most 3 states.
     */
    static TurnstileBank everywhere() {
        TurnstileBank bank = gates(1, 2);
        for (int person = 0; person < 6; person++) {
            bank.enter(0, person == 3 ? -1 : person, false);
        }
        bank.pass(4);
        bank.exit(1, 0);
        bank.pass(9);
        bank.fail(1);
        bank.exit(1, 1);
        bank.pass(1);
        leaveThreeStates(bank);
        return bank;
    }

    /** Gate 0 is closed with a pinch told; the text is "x0"; at most 3 states. */
    static TurnstileBank pinchTold() {
        TurnstileBank bank = gates(0);
        bank.pinch(0);
        leaveThreeStates(bank);
        Check.type(bank, "x0");
        return bank;
    }

    /** All kinds of things are going on; 3 states in the history; the text is "t1x0". */
    static TurnstileBank busy() {
        TurnstileBank bank = gates(0, 0, 2);
        bank.addPool(2);
        bank.credit(1, 25);
        for (int pass = 0; pass < 7; pass++) {
            bank.enter(pass % 2, pass == 5 ? -1 : pass, pass == 3);
        }
        bank.pass(21);
        bank.exit(2, 0);
        bank.exit(0, 2);
        bank.enter(2, 7, true);
        bank.enter(0, 0, false);
        bank.block(9, true);
        bank.fail(0);
        bank.exit(1, 1);
        bank.enter(1, 8, false);
        bank.pinch(1);
        bank.pass(2);
        leaveThreeStates(bank);
        bank.undo();
        bank.setFare(12);
        Check.type(bank, "t1x0");
        return bank;
    }

    /** No room is left: gates, pools, passes, people, credit, text; 4 states in the history. */
    static TurnstileBank full() {
        TurnstileBank bank = new TurnstileBank();
        for (int gate = 0; gate < 8; gate++) {
            bank.addGate(gate % 3, 1, 1, 1);
        }
        for (int pool = 0; pool < 4; pool++) {
            bank.addPool(2);
        }
        for (int pass = 0; pass < 12; pass++) {
            bank.addPass(pass % 4);
        }
        for (int i = 0; i < 10; i++) {
            bank.credit(0, 100000);
            bank.credit(1, 3);
        }
        for (int person = 0; person < 40; person++) {
            bank.enter(person % 2, person % 12, false);
        }
        bank.pass(5);
        bank.credit(0, 10);
        Check.type(bank, "t1t2t3t4t5t6t7t8t9t10t11t12t13t14t15t16t17t18t19x0");
        return bank;
    }
}
