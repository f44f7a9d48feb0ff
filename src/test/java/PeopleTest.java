/** Promises 9 to 15: people, diversions, pinches, outages, ticks. */
public final class PeopleTest {
    private static final int UNKNOWN = TurnstileBank.UNKNOWN;
    private static final int BAD_VALUE = TurnstileBank.BAD_VALUE;
    private static final int FULL = TurnstileBank.FULL;
    private static final int NOT_POSSIBLE = TurnstileBank.NOT_POSSIBLE;
    private static final int NONE = TurnstileBank.NONE;

    public static void main(String[] arguments) {
        promise9Enter();
        promise10Exit();
        promise11Divert();
        promise11WaitsGoOn();
        promise12Pinch();
        promise12Reversing();
        promise12ThirdPinch();
        promise12PinchesOfOneStay();
        promise13Fail();
        promise13FailOnTheWayOut();
        promise14Repair();
        promise15Pass();
        promise15Reasons();
        promise15ReasonsInOrder();
        promise15Limit();
        promise15NextPerson();
        promise15Directions();
        promise15GatesInOrder();
        promise15Slow();
        Check.end("PeopleTest");
    }

    private static void promise9Enter() {
        TurnstileBank bank = new TurnstileBank();
        Check.due("no gate", bank.enter(0, -1, false), UNKNOWN);
        bank = Check.oneGate();
        Check.due("gate -1", bank.enter(-1, -1, false), UNKNOWN);
        Check.due("gate 1", bank.enter(1, 0, false), UNKNOWN);
        Check.due("pass 12", bank.enter(0, 12, false), UNKNOWN);
        Check.due("pass -2", bank.enter(0, -2, false), UNKNOWN);
        Check.due("pass -5", bank.enter(0, NONE, false), UNKNOWN);
        Check.due("pass, least int", bank.enter(0, Integer.MIN_VALUE, false), UNKNOWN);
        Check.due("nobody came", bank.count(2), 0);
        Check.due("enter(0, 3, true)", bank.enter(0, 3, true), 0);
        Check.due("where", bank.person(0, 0), 1);
        Check.due("pass", bank.person(0, 1), 3);
        Check.due("slow", bank.person(0, 2), 1);
        Check.due("gate", bank.person(0, 3), 0);
        Check.due("enter(0, -1, false)", bank.enter(0, -1, false), 1);
        Check.due("pass", bank.person(1, 1), NONE);
        Check.due("slow", bank.person(1, 2), 0);
        Check.due("the same pass twice", bank.enter(0, 3, false), 2);
        Check.due("behind", bank.queued(0, 0, 2), 2);
        Check.due("undo()", bank.undo(), 3);
        Check.due("it is an act", bank.count(2), 2);
        for (int person = 2; person < 40; person++) {
            Check.due("person " + person, bank.enter(0, -1, false), person);
        }
        Check.due("a 41st", bank.enter(0, -1, false), FULL);
        Check.due("a 41st, no pass", bank.enter(0, 12, false), UNKNOWN);
        Check.due("the queue", bank.gate(0, 4), 40);
        Check.due("its end", bank.queued(0, 0, 39), 39);
        bank.pass(1);
        Check.due("the first one has left it", bank.gate(0, 4), 39);
        Check.due("the next one is the first", bank.queued(0, 0, 0), 1);
    }

    private static void promise10Exit() {
        TurnstileBank bank = Check.oneGate();
        bank.enter(0, 0, false);
        bank.enter(0, 1, false);
        bank.enter(0, -1, false);
        Check.due("waits", bank.exit(0, 0), NOT_POSSIBLE);
        bank.pass(1);
        Check.due("in the gate", bank.exit(0, 0), NOT_POSSIBLE);
        bank.pass(8);
        Check.due("gate -1", bank.exit(-1, 0), UNKNOWN);
        Check.due("gate 1", bank.exit(1, 0), UNKNOWN);
        Check.due("person -1", bank.exit(0, -1), UNKNOWN);
        Check.due("person 3", bank.exit(0, 3), UNKNOWN);
        Check.due("outside", bank.exit(0, 2), NOT_POSSIBLE);
        Check.due("exit(0, 1)", bank.exit(0, 1), 1);
        int recorded = Check.statesWithRoom(bank);
        Check.due("waits already", bank.exit(0, 1), NOT_POSSIBLE);
        Check.due("that is not recorded", bank.count(11), recorded);
        Check.due("where", bank.person(1, 0), 4);
        Check.due("gate", bank.person(1, 3), 0);
        Check.due("exit(0, 0)", bank.exit(0, 0), 2);
        Check.due("behind", bank.queued(0, 1, 1), 0);
        Check.due("undo()", bank.undo(), 3);
        Check.due("it is an act", bank.gate(0, 5), 1);
        bank.pass(4);
        Check.due("gone", bank.exit(0, 1), NOT_POSSIBLE);
        Check.due("the fare is not paid again", bank.pool(0, 0), 980);
    }

    private static void promise11Divert() {
        TurnstileBank bank = Check.oneGate();
        bank.addGate(0, 1, 1, 1);
        bank.enter(0, 0, false);
        bank.enter(0, 1, false);
        bank.pass(8);
        Check.due("gate 2", bank.divert(2, 2), UNKNOWN);
        Check.due("to gate 2", bank.divert(0, 2), UNKNOWN);
        Check.due("to gate -1", bank.divert(0, -1), UNKNOWN);
        Check.due("from gate -1", bank.divert(-1, 0), UNKNOWN);
        Check.due("the same", bank.divert(1, 1), BAD_VALUE);
        int recorded = Check.statesWithRoom(bank);
        Check.due("nobody", bank.divert(0, 1), NONE);
        Check.due("that is not recorded", bank.count(11), recorded);
        bank.enter(1, 2, false);
        bank.enter(0, 3, false);
        bank.enter(0, 4, false);
        bank.exit(1, 1);
        bank.exit(0, 0);
        Check.due("divert(0, 1)", bank.divert(0, 1), 3);
        int[] outer = {2, 3, 4, NONE};
        int[] inner = {1, 0, NONE};
        for (int place = 0; place < outer.length; place++) {
            Check.due("outer queue", bank.queued(1, 0, place), outer[place]);
        }
        for (int place = 0; place < inner.length; place++) {
            Check.due("inner queue", bank.queued(1, 1, place), inner[place]);
        }
        Check.due("left there", bank.gate(0, 4) + bank.gate(0, 5), 0);
        Check.due("now at gate 1", bank.person(4, 3), 1);
        Check.due("now at gate 1", bank.person(0, 3), 1);
        Check.due("wants in still", bank.person(4, 0), 1);
        Check.due("wants out still", bank.person(0, 0), 4);
        Check.due("undo()", bank.undo(), 3);
        Check.due("it is an act", bank.gate(0, 4), 2);
        bank.pass(1);
        Check.due("who is in the gate stays", bank.divert(0, 1), 2);
        Check.due("who is in the gate stays", bank.gate(0, 3), 0);
    }

    private static void promise11WaitsGoOn() {
        TurnstileBank bank = Check.oneGate();
        bank.addGate(0, 1, 1, 1);
        bank.setDirection(1, 1);
        bank.enter(0, 0, false);
        bank.pass(4);
        bank.setDirection(0, 2);
        bank.enter(0, 1, false);
        bank.pass(3);
        bank.exit(1, 0);
        bank.pass(2);
        Check.due("waited at gate 0", bank.person(1, 5), 5);
        bank.divert(0, 1);
        Check.due("waited in both", bank.person(1, 5), 5);
        bank.setDirection(1, 0);
        bank.pass(1);
        Check.due("who waited longer comes first", bank.gate(1, 3), 1);
        Check.due("the other waits on", bank.person(0, 5), 3);
        Check.due("who is in the gate does not wait", bank.person(1, 5), 0);
    }

    private static void promise12Pinch() {
        TurnstileBank bank = Check.oneGate();
        Check.due("gate 1", bank.pinch(1), UNKNOWN);
        Check.due("gate -1", bank.pinch(-1), UNKNOWN);
        Check.due("closed", bank.pinch(0), 0);
        Check.due("told", bank.gate(0, 10), 1);
        int recorded = Check.statesWithRoom(bank);
        Check.due("told already", bank.pinch(0), NONE);
        Check.due("that is not recorded", bank.count(11), recorded);
        Check.due("told, not used", bank.gate(0, 9), 0);
        bank.enter(0, 0, false);
        bank.pass(3);
        Check.due("closing, told ahead", bank.pinch(0), NONE);
        bank.pass(1);
        Check.due("reversing", bank.gate(0, 1), 4);
        Check.due("used", bank.gate(0, 10), 0);
        Check.due("counted", bank.gate(0, 9), 1);
        Check.due("reversing", bank.pinch(0), 0);
        bank.undo();
        bank.pass(2);
        Check.due("closing again", bank.gate(0, 1), 3);
        Check.due("closing", bank.pinch(0), 1);
        bank.undo();
        Check.due("undone", bank.gate(0, 10), 0);
        Check.due("gate passes", bank.pass(1), 1);
        bank.fail(0);
        Check.due("out of order", bank.pinch(0), NOT_POSSIBLE);
        Check.due("out of order, nothing told", bank.gate(0, 10), 0);
    }

    private static void promise12Reversing() {
        TurnstileBank bank = Check.oneGate();
        bank.addGate(1, 2, 3, 5);
        bank.enter(1, 0, true);
        bank.pass(8);
        Check.due("closing", bank.gate(1, 1), 3);
        Check.due("closing for 5", bank.gate(1, 2), 5);
        bank.pass(2);
        bank.pinch(1);
        bank.pass(1);
        Check.due("reversing", bank.gate(1, 1), 4);
        Check.due("as long as it closed", bank.gate(1, 2), 3);
        Check.due("event", bank.event(0, 3), 4);
        Check.due("its tick", bank.event(0, 0), 10);
        Check.due("its person", bank.event(0, 2), 0);
        Check.due("its gate", bank.event(0, 1), 1);
        bank.pass(2);
        Check.due("reversing still", bank.gate(1, 2), 1);
        bank.pass(1);
        Check.due("open", bank.gate(1, 1), 2);
        Check.due("with 2 more, as slow", bank.gate(1, 2), 5);
        bank.pass(5);
        Check.due("closing anew", bank.gate(1, 2), 5);
        bank.pass(4);
        bank.pinch(1);
        Check.due("pinched in the last tick", bank.pass(1), 0);
        Check.due("reversing the whole way", bank.gate(1, 2), 5);
        Check.due("in the gate still", bank.person(0, 0), 2);
        Check.due("passes at last", bank.pass(15), 1);
        Check.due("pinches of the gate", bank.gate(1, 9), 2);
    }

    private static void promise12ThirdPinch() {
        TurnstileBank bank = Check.oneGate();
        bank.enter(0, 0, false);
        bank.enter(0, 1, false);
        bank.pass(3);
        for (int i = 0; i < 2; i++) {
            bank.pinch(0);
            Check.due("pinched", bank.pass(3), 0);
            Check.due("closing again", bank.gate(0, 1), 3);
        }
        bank.pinch(0);
        Check.due("the third pinch", bank.pass(1), 1);
        Check.due("out of order", bank.gate(0, 1), 5);
        Check.due("no time left", bank.gate(0, 2), 0);
        Check.due("nobody in it", bank.gate(0, 3), NONE);
        Check.due("pinches", bank.gate(0, 9), 3);
        Check.due("none told", bank.gate(0, 10), 0);
        Check.due("let in", bank.gate(0, 6), 1);
        Check.due("inside", bank.person(0, 0), 3);
        int[] kinds = {2, 5, 4};
        int[] people = {0, NONE, 0};
        for (int event = 0; event < 3; event++) {
            Check.due("event " + event + ", tick", bank.event(event, 0), 9);
            Check.due("event " + event + ", person", bank.event(event, 2), people[event]);
            Check.due("event " + event + ", kind", bank.event(event, 3), kinds[event]);
        }
        Check.due("then nothing", bank.pass(50), 0);
        Check.due("the queue stays", bank.queued(0, 0, 0), 1);
        Check.due("repaired", bank.repair(0), 1);
        Check.due("the next one", bank.pass(4), 1);
    }

    private static void promise12PinchesOfOneStay() {
        TurnstileBank bank = Check.oneGate();
        bank.enter(0, 0, false);
        bank.enter(0, 1, false);
        Check.runText(bank, "t3x0t3x0t3t1");
        Check.due("in with 2 pinches", bank.gate(0, 6), 1);
        Check.runText(bank, "t3x0t1");
        Check.due("the next one is pinched once", bank.gate(0, 1), 4);
        Check.due("and passes", bank.pass(3), 1);
        bank.exit(0, 0);
        Check.runText(bank, "t3x0t3x0t1");
        Check.due("a new stay is counted anew", bank.gate(0, 1), 4);
        Check.due("pinches of the gate", bank.gate(0, 9), 5);
        Check.runText(bank, "t2x0t1");
        Check.due("the third one on the way out", bank.gate(0, 1), 5);
        Check.due("gone", bank.person(0, 0), 5);
        Check.due("event", bank.event(0, 3), 3);
        Check.due("event before", bank.event(1, 3), 5);
        Check.due("event before that", bank.event(2, 3), 4);
    }

    private static void promise13Fail() {
        TurnstileBank bank = Check.oneGate();
        Check.due("gate -1", bank.fail(-1), UNKNOWN);
        Check.due("gate 1", bank.fail(1), UNKNOWN);
        bank.undo();
        bank.undo();
        bank.pass(2);
        Check.due("recorded", bank.count(11), 3);
        Check.due("nobody in it", bank.fail(0), NONE);
        Check.due("that is recorded, too", bank.count(11), 4);
        Check.due("out of order", bank.gate(0, 1), 5);
        Check.due("event", bank.event(0, 3), 5);
        Check.due("its tick is the present time", bank.event(0, 0), 2);
        Check.due("its person", bank.event(0, 2), NONE);
        Check.due("one event", bank.event(1, 3), NONE);
        Check.due("out of order already", bank.fail(0), NOT_POSSIBLE);
        bank.undo();
        Check.due("undone", bank.gate(0, 1), 0);
        Check.due("undone", bank.event(0, 3), NONE);
        bank.enter(0, 0, false);
        bank.enter(0, 1, false);
        bank.pass(2);
        bank.pinch(0);
        Check.due("somebody in it", bank.fail(0), 0);
        Check.due("inside", bank.person(0, 0), 3);
        Check.due("at no gate", bank.person(0, 3), NONE);
        Check.due("counted", bank.gate(0, 6), 1);
        Check.due("nobody in it then", bank.gate(0, 3), NONE);
        Check.due("no time left", bank.gate(0, 2), 0);
        Check.due("the pinch is forgotten", bank.gate(0, 10), 0);
        Check.due("the queue stays", bank.gate(0, 4), 1);
        Check.due("event inside", bank.event(0, 3), 2);
        Check.due("its tick", bank.event(0, 0), 4);
        Check.due("event out of order", bank.event(1, 3), 5);
        Check.due("nothing is pinched", bank.gate(0, 9), 0);
        Check.due("nothing happens", bank.pass(20), 0);
    }

    private static void promise13FailOnTheWayOut() {
        TurnstileBank bank = Check.oneGate();
        bank.enter(0, 0, false);
        bank.pass(4);
        bank.exit(0, 0);
        bank.pass(1);
        Check.due("fail(0)", bank.fail(0), 0);
        Check.due("gone", bank.person(0, 0), 5);
        Check.due("counted", bank.gate(0, 7), 1);
        Check.due("event", bank.event(0, 3), 3);
        Check.due("the pass is free", bank.passOf(0, 2), NONE);
        Check.due("nobody by the pool", bank.pool(0, 2), 0);
    }

    private static void promise14Repair() {
        TurnstileBank bank = Check.oneGate();
        Check.due("gate -1", bank.repair(-1), UNKNOWN);
        Check.due("gate 1", bank.repair(1), UNKNOWN);
        Check.due("in order", bank.repair(0), NOT_POSSIBLE);
        bank.enter(0, 0, false);
        bank.pass(4);
        bank.fail(0);
        bank.enter(0, 1, false);
        bank.enter(0, 2, false);
        bank.exit(0, 0);
        bank.pass(3);
        Check.due("repair(0)", bank.repair(0), 3);
        Check.due("closed", bank.gate(0, 1), 0);
        Check.due("no pinch told", bank.gate(0, 10), 0);
        Check.due("event", bank.event(0, 3), 6);
        Check.due("its tick", bank.event(0, 0), 7);
        Check.due("its gate", bank.event(0, 1), 0);
        Check.due("its person", bank.event(0, 2), NONE);
        Check.due("in order then", bank.repair(0), NOT_POSSIBLE);
        bank.undo();
        Check.due("it is an act", bank.gate(0, 1), 5);
        Check.due("undone", bank.event(0, 3), 5);
        bank.repair(0);
        Check.due("all pass", bank.pass(12), 3);
    }

    private static void promise15Pass() {
        TurnstileBank bank = Check.oneGate();
        int recorded = Check.statesWithRoom(bank);
        Check.due("pass(0)", bank.pass(0), BAD_VALUE);
        Check.due("pass(-1)", bank.pass(-1), BAD_VALUE);
        Check.due("pass(201)", bank.pass(201), BAD_VALUE);
        Check.due("pass, least int", bank.pass(Integer.MIN_VALUE), BAD_VALUE);
        Check.due("nothing is recorded", bank.count(11), recorded);
        Check.due("pass(1)", bank.pass(1), 0);
        Check.due("it is an act", bank.count(11), recorded + 1);
        Check.due("pass(200)", bank.pass(200), 0);
        Check.due("time", bank.count(0), 201);
        bank.enter(0, 0, false);
        bank.enter(0, 1, false);
        Check.due("pass(8)", bank.pass(8), 2);
        Check.due("let in", bank.event(3, 3), 0);
        Check.due("its tick", bank.event(3, 0), 201);
        Check.due("inside", bank.event(2, 3), 2);
        Check.due("its tick", bank.event(2, 0), 204);
        Check.due("the next let in", bank.event(1, 0), 205);
        Check.due("its person", bank.event(1, 2), 1);
        Check.due("paid", bank.pool(0, 4), 20);
        bank.exit(0, 0);
        bank.exit(0, 1);
        bank.enter(0, 2, false);
        Check.due("pass(12)", bank.pass(12), 3);
        Check.due("gone", bank.count(6), 2);
        Check.due("inside", bank.count(3), 1);
        Check.due("out is free", bank.pool(0, 4), 30);
    }

    private static void promise15Reasons() {
        TurnstileBank bank = new TurnstileBank();
        bank.addGate(1, 1, 1, 1);
        bank.addPool(2);
        bank.addPool(1);
        bank.credit(0, 1000);
        bank.credit(1, 9);
        bank.addPass(0);
        bank.addPass(0);
        bank.addPass(0);
        bank.addPass(1);
        bank.block(1, true);
        bank.enter(0, -1, false);
        bank.enter(0, 1, false);
        bank.enter(0, 0, false);
        bank.enter(0, 0, false);
        bank.enter(0, 3, false);
        Check.due("three refusals take three ticks", bank.pass(3), 0);
        Check.due("1 without a pass", bank.person(0, 4), 1);
        Check.due("2 the pass is blocked", bank.person(1, 4), 2);
        Check.due("the third is in the gate", bank.gate(0, 3), 2);
        Check.due("and was not refused", bank.person(2, 4), 0);
        bank.pass(3);
        Check.due("in", bank.person(2, 0), 3);
        bank.pass(1);
        Check.due("3 the pass is in use", bank.person(3, 4), 3);
        bank.pass(1);
        Check.due("5 the credit is less", bank.person(4, 4), 5);
        Check.due("the credit stays", bank.pool(1, 0), 9);
        Check.due("refused", bank.gate(0, 8), 4);
        Check.due("where", bank.person(4, 0), 0);
        Check.due("at no gate", bank.person(4, 3), NONE);
        Check.due("closed", bank.gate(0, 1), 0);
        Check.due("event", bank.event(0, 3), 1);
        Check.due("its tick", bank.event(0, 0), 7);
        Check.due("its person", bank.event(0, 2), 4);
        bank.credit(1, 1);
        bank.enter(0, 3, false);
        Check.due("the credit is just enough", bank.pass(4), 1);
        Check.due("used up", bank.pool(1, 0), 0);
        bank.block(1, false);
        bank.enter(0, 1, false);
        Check.due("valid again", bank.pass(4), 1);
        bank.enter(0, 2, false);
        bank.pass(1);
        Check.due("4 the pool is at its limit", bank.person(7, 4), 4);
    }

    private static void promise15ReasonsInOrder() {
        TurnstileBank bank = new TurnstileBank();
        bank.addGate(1, 1, 1, 1);
        bank.addPool(1);
        bank.credit(0, 10);
        bank.addPass(0);
        bank.addPass(0);
        bank.enter(0, 0, false);
        bank.pass(4);
        bank.enter(0, 0, false);
        bank.enter(0, 1, false);
        bank.pass(2);
        Check.due("in use comes ahead of the limit", bank.person(1, 4), 3);
        Check.due("the limit comes ahead of the credit", bank.person(2, 4), 4);
        bank.block(0, true);
        bank.enter(0, 0, false);
        bank.pass(1);
        Check.due("blocked comes ahead of in use", bank.person(3, 4), 2);
    }

    private static void promise15Limit() {
        TurnstileBank bank = new TurnstileBank();
        bank.addGate(1, 1, 1, 1);
        bank.addGate(2, 1, 1, 1);
        bank.addPool(1);
        bank.credit(0, 100);
        bank.addPass(0);
        bank.addPass(0);
        bank.enter(0, 0, false);
        bank.pass(1);
        Check.due("in the gate counts", bank.pool(0, 2), 1);
        bank.enter(0, 1, false);
        bank.pass(4);
        Check.due("inside counts", bank.person(1, 4), 4);
        bank.exit(1, 0);
        bank.fail(1);
        bank.enter(0, 1, false);
        bank.pass(1);
        Check.due("waiting to go out counts", bank.person(2, 4), 4);
        bank.repair(1);
        bank.pass(1);
        bank.enter(0, 1, false);
        bank.pass(1);
        Check.due("in the gate on the way out counts", bank.person(3, 4), 4);
        bank.pass(1);
        bank.enter(0, 1, false);
        bank.pass(1);
        Check.due("gate 0 comes ahead of gate 1", bank.person(4, 4), 4);
        Check.due("gone in the same tick", bank.person(0, 0), 5);
        bank.enter(0, 0, false);
        Check.due("then there is room", bank.pass(4), 1);
    }

    private static void promise15NextPerson() {
        TurnstileBank bank = Check.oneGate();
        bank.addGate(2, 1, 1, 1);
        Check.runText(bank, "i0p0i0p1i0p2t12");
        bank.exit(0, 2);
        bank.enter(0, 3, false);
        bank.pass(1);
        Check.due("of the same length the inner one", bank.gate(0, 3), 2);
        Check.due("it goes out", bank.pass(3), 1);
        bank.pass(4);
        Check.due("if only the outer one has people", bank.person(3, 0), 3);
        bank.enter(0, 4, false);
        bank.enter(1, 5, false);
        bank.fail(0);
        bank.pass(1);
        bank.repair(0);
        bank.exit(0, 1);
        bank.pass(1);
        Check.due("who waited longer outside", bank.gate(0, 3), 4);
        bank.pass(3);
        bank.enter(0, 6, false);
        bank.pass(4);
        Check.due("who waited longer inside", bank.person(1, 0), 5);
        bank.pass(1);
        Check.due("then the outer one", bank.gate(0, 3), 6);
        Check.due("out only: who wants in waits", bank.person(5, 0), 1);
    }

    private static void promise15Directions() {
        TurnstileBank bank = Check.oneGate();
        bank.enter(0, 0, false);
        bank.pass(4);
        bank.exit(0, 0);
        bank.setDirection(0, 1);
        Check.due("in only: who wants out waits", bank.pass(30), 0);
        bank.enter(0, 1, false);
        bank.pass(2);
        bank.setDirection(0, 2);
        Check.due("who is in the gate goes on", bank.pass(2), 1);
        Check.due("inside", bank.person(1, 0), 3);
        bank.enter(0, 2, false);
        Check.due("out only", bank.pass(30), 1);
        Check.due("gone", bank.person(0, 0), 5);
        Check.due("waits", bank.person(2, 0), 1);
        Check.due("closed", bank.gate(0, 1), 0);
    }

    private static void promise15GatesInOrder() {
        TurnstileBank bank = new TurnstileBank();
        bank.addGate(2, 1, 1, 1);
        bank.addGate(1, 1, 1, 1);
        bank.addGate(1, 1, 1, 1);
        bank.addPool(1);
        bank.credit(0, 100);
        bank.addPass(0);
        bank.addPass(0);
        bank.enter(2, 0, false);
        bank.enter(1, 1, false);
        bank.pass(1);
        Check.due("gate 1 comes ahead of gate 2", bank.person(1, 0), 2);
        Check.due("which finds the pool at its limit", bank.person(0, 4), 4);
        Check.due("later event", bank.event(0, 1), 2);
        Check.due("earlier event", bank.event(1, 1), 1);
        bank.pass(3);
        bank.exit(0, 1);
        bank.pass(3);
        bank.enter(1, 0, false);
        Check.due("gate 0 has let one go", bank.pass(1), 1);
        Check.due("so gate 1 lets one in", bank.person(2, 0), 2);
        Check.due("event", bank.event(0, 3), 0);
        Check.due("event of the same tick", bank.event(1, 3), 3);
    }

    private static void promise15Slow() {
        TurnstileBank bank = Check.oneGate();
        bank.enter(0, 0, true);
        Check.due("slow, 5 ticks", bank.pass(5), 0);
        Check.due("slow, the 6th", bank.pass(1), 1);
        bank.exit(0, 0);
        Check.due("slow out, 5 ticks", bank.pass(5), 0);
        Check.due("slow out, the 6th", bank.pass(1), 1);
    }
}
