import java.util.function.IntUnaryOperator;
import java.util.function.Supplier;
import java.util.function.ToIntFunction;

/**
 * The terms on which the promises rest, each sentence that names a boundary case: the steps of a
 * gate tick by tick, who is next, the reasons of refusal, pinches, outages, events of one tick.
 */
public final class TermsEdgesTest {
    private static final int NOT_POSSIBLE = TurnstileBank.NOT_POSSIBLE;
    private static final int NONE = TurnstileBank.NONE;

    public static void main(String[] arguments) {
        timeFromZero();
        gateOfTheLeastTimes();
        gateOfTheMostTimes();
        slowTakesTwoTicksMore();
        closedWithNobodyStaysClosed();
        directionTellsTheQueue();
        whoHasWaitedLonger();
        ofTheSameLengthTheInnerQueue();
        ifOnlyOneQueueHasPeople();
        theFirstPersonCounts();
        waitsOfOtherQueuesCount();
        refusedTheTickIsOver();
        eachReasonAheadOfTheNext();
        passInUseFromTheGateOn();
        passInUseUntilGone();
        limitCountsAllWhoAreInside();
        limitOneBelow();
        goingOutNeedsNothing();
        outsideForGood();
        gatesInAscendingOrder();
        pinchToldInEachState();
        pinchInEachTickOfClosing();
        pinchesToldSeveralTimes();
        thirdPinch();
        pinchesOfTheSamePersonAlone();
        outageInEachState();
        outageByTheThirdPinch();
        outageForgetsThePinch();
        outOfOrderDoesNothing();
        repairedIsClosed();
        eventsOfOneTick();
        eventsOfTheThirdPinch();
        eventsOfFailAndRepair();
        orderOfErrors();
        fiveHundredAndTwelveCalls();
        Check.end("TermsEdgesTest");
    }

    /** States and times left, tick by tick; the last tick is that in which the person passes. */
    private static void steps(String name, TurnstileBank bank, int... statesAndLeft) {
        for (int i = 0; i < statesAndLeft.length; i += 2) {
            int passed = bank.pass(1);
            String at = name + ", tick " + (i / 2 + 1);
            Check.due(at + ": state", bank.gate(0, 1), statesAndLeft[i]);
            Check.due(at + ": left", bank.gate(0, 2), statesAndLeft[i + 1]);
            Check.due(at + ": passed", passed, i == statesAndLeft.length - 2 ? 1 : 0);
        }
    }

    /** "Time is counted in ticks, from 0." */
    private static void timeFromZero() {
        TurnstileBank bank = Scenes.gates(1);
        Check.due("at first", bank.count(0), 0);
        bank.enter(0, 0, false);
        bank.pass(1);
        Check.due("a tick later", bank.count(0), 1);
        Check.due("the first tick is 0", bank.event(0, 0), 0);
        bank.pass(200);
        Check.due("200 ticks later", bank.count(0), 201);
        Check.due("inside in tick 3", bank.event(0, 0), 3);
    }

    // ---- what a gate does

    private static void gateOfTheLeastTimes() {
        for (int direction = 0; direction <= 1; direction++) {
            TurnstileBank bank = Scenes.gates(direction);
            bank.enter(0, 0, false);
            steps("1, 1, 1", bank, 1, 1, 2, 1, 3, 1, 0, 0);
        }
    }

    private static void gateOfTheMostTimes() {
        TurnstileBank bank = Scenes.inOnly(10, 20, 10);
        bank.enter(0, 0, false);
        int[] due = new int[82];
        for (int tick = 1; tick <= 40; tick++) {
            due[2 * tick - 2] = tick <= 10 ? 1 : tick <= 30 ? 2 : 3;
            due[2 * tick - 1] = tick <= 10 ? 11 - tick : tick <= 30 ? 31 - tick : 41 - tick;
        }
        steps("10, 20, 10", bank, due);
    }

    /** "with its hold, and 2 more if the person is slow": in, out, and behind a pinch. */
    private static void slowTakesTwoTicksMore() {
        TurnstileBank bank = Scenes.gates(0);
        bank.enter(0, 0, true);
        steps("slow in", bank, 1, 1, 2, 3, 2, 2, 2, 1, 3, 1, 0, 0);
        bank.exit(0, 0);
        steps("slow out", bank, 1, 1, 2, 3, 2, 2, 2, 1, 3, 1, 0, 0);
        bank.enter(0, 1, true);
        bank.pass(5);
        bank.pinch(0);
        steps("slow, pinched", bank, 4, 1, 2, 3, 2, 2, 2, 1, 3, 1, 0, 0);
        bank.enter(0, 2, false);
        steps("not slow behind it", bank, 1, 1, 2, 1, 3, 1, 0, 0);
        bank.enter(0, 3, false);
        bank.pass(3);
        bank.pinch(0);
        steps("not slow, pinched", bank, 4, 1, 2, 1, 3, 1, 0, 0);
    }

    /** "If there is nobody, it stays closed." */
    private static void closedWithNobodyStaysClosed() {
        for (int direction = 0; direction <= 2; direction++) {
            TurnstileBank bank = Scenes.gates(direction);
            Check.due("nobody passes", bank.pass(7), 0);
            Check.due("closed", bank.gate(0, 1), 0);
            Check.due("no event", bank.event(0, 0), NONE);
            bank.addGate(1, 1, 1, 1);
            bank.enter(1, 0, false);
            bank.pass(4);
            Check.due("who waits elsewhere is not taken", bank.gate(0, 1), 0);
            Check.due("but there", bank.gate(1, 6), 1);
        }
    }

    /**
     * Gate 0 is closed and has this direction. Person 0 waits to go out, person 1 to go in, and
     * has come so many ticks later, or earlier.
     */
    private static TurnstileBank two(int direction, int later) {
        TurnstileBank bank = Scenes.gates(1);
        bank.enter(0, 0, false);
        bank.pass(4);
        bank.setDirection(0, 2);
        bank.fail(0);
        for (int tick = 0; tick <= 5; tick++) {
            if (tick == 2 + later) {
                bank.enter(0, 1, false);
            }
            if (tick == 2) {
                bank.exit(0, 0);
            }
            bank.pass(1);
        }
        bank.setDirection(0, direction);
        bank.repair(0);
        return bank;
    }

    private static int taken(TurnstileBank bank) {
        bank.pass(1);
        Check.due("it is opening", bank.gate(0, 1), 1);
        return bank.gate(0, 3);
    }

    /** "with 1 at the outer queue, with 2 at the inner one": however long the others wait. */
    private static void directionTellsTheQueue() {
        for (int later = -2; later <= 2; later++) {
            Check.due("in only", taken(two(1, later)), 1);
            Check.due("out only", taken(two(2, later)), 0);
        }
        TurnstileBank bank = two(1, 0);
        Check.due("in only", bank.pass(50), 1);
        Check.due("the inner queue stays", bank.queued(0, 1, 0), 0);
        bank = two(2, 0);
        Check.due("out only", bank.pass(50), 1);
        Check.due("the outer queue stays", bank.queued(0, 0, 0), 1);
    }

    /** "the queue whose first person has waited longer": by a tick already. */
    private static void whoHasWaitedLonger() {
        Check.due("outside, by 2", taken(two(0, -2)), 1);
        Check.due("outside, by 1", taken(two(0, -1)), 1);
        Check.due("inside, by 1", taken(two(0, 1)), 0);
        Check.due("inside, by 2", taken(two(0, 2)), 0);
    }

    /** "of the same length the inner queue". */
    private static void ofTheSameLengthTheInnerQueue() {
        Check.due("the same", taken(two(0, 0)), 0);
        TurnstileBank bank = two(0, 0);
        Check.due("then the other", bank.pass(8), 2);
        Check.due("then the other", bank.event(0, 2), 1);
        bank = Scenes.gates(0);
        bank.enter(0, 0, false);
        bank.pass(1);
        bank.fail(0);
        bank.repair(0);
        bank.exit(0, 0);
        bank.enter(0, 1, false);
        Check.due("the same, in tick 1", taken(bank), 0);
    }

    /** "if only one queue has people, at this one". */
    private static void ifOnlyOneQueueHasPeople() {
        TurnstileBank bank = Scenes.gates(0);
        bank.enter(0, 0, false);
        Check.due("outer alone", taken(bank), 0);
        bank.pass(3);
        bank.exit(0, 0);
        Check.due("inner alone", taken(bank), 0);
        Check.due("out", bank.pass(3), 1);
        Check.due("gone", bank.person(0, 0), 5);
    }

    /** "whose first person has waited longer": others in the queue do not count. */
    private static void theFirstPersonCounts() {
        TurnstileBank bank = Scenes.gates(1, 2);
        bank.enter(0, 0, false);
        bank.pass(4);
        bank.fail(0);
        bank.enter(1, 1, false);
        bank.pass(2);
        bank.exit(0, 0);
        bank.pass(1);
        bank.enter(0, 2, false);
        bank.divert(1, 0);
        Check.due("behind", bank.queued(0, 0, 1), 1);
        Check.due("has waited longest", bank.person(1, 5), 3);
        bank.setDirection(0, 0);
        bank.repair(0);
        Check.due("the inner one", taken(bank), 0);
        bank.pass(3);
        Check.due("then the first outside", taken(bank), 2);
        bank.pass(3);
        Check.due("then the second", taken(bank), 1);
        bank = Scenes.gates(1, 1);
        bank.enter(0, 0, false);
        bank.enter(0, 1, false);
        bank.pass(8);
        bank.fail(0);
        bank.exit(1, 1);
        bank.pass(2);
        bank.enter(0, 2, false);
        bank.pass(1);
        bank.exit(0, 0);
        bank.divert(1, 0);
        Check.due("behind", bank.queued(0, 1, 1), 1);
        Check.due("has waited longest", bank.person(1, 5), 3);
        bank.setDirection(0, 0);
        bank.repair(0);
        Check.due("the outer one", taken(bank), 2);
        bank.pass(3);
        Check.due("then the first inside", taken(bank), 0);
        bank.pass(3);
        Check.due("then the second", taken(bank), 1);
    }

    /** "in this queue or those from which the person was moved by divert()". */
    private static void waitsOfOtherQueuesCount() {
        TurnstileBank bank = Scenes.gates(1, 2, 2);
        bank.enter(0, 0, false);
        bank.pass(4);
        bank.fail(0);
        bank.enter(1, 1, false);
        bank.pass(1);
        bank.exit(0, 0);
        bank.pass(1);
        bank.divert(1, 2);
        bank.pass(1);
        bank.divert(2, 0);
        bank.setDirection(0, 0);
        bank.repair(0);
        Check.due("a tick more, of three queues", taken(bank), 1);
        bank = Scenes.gates(0, 2);
        bank.enter(0, 0, false);
        bank.pass(4);
        bank.fail(0);
        bank.exit(0, 0);
        bank.enter(1, 1, false);
        bank.pass(1);
        bank.divert(1, 0);
        bank.repair(0);
        Check.due("just as long", taken(bank), 0);
    }

    /** "if the person is refused, the tick is over": of this gate, for the others it is not. */
    private static void refusedTheTickIsOver() {
        TurnstileBank bank = Scenes.gates(1, 1);
        bank.enter(0, -1, false);
        bank.enter(0, -1, false);
        bank.enter(0, 0, false);
        bank.enter(1, 1, false);
        bank.pass(1);
        Check.due("one is refused", bank.gate(0, 8), 1);
        Check.due("the second waits", bank.person(1, 0), 1);
        Check.due("closed", bank.gate(0, 1), 0);
        Check.due("the other gate goes on", bank.gate(1, 1), 1);
        bank.pass(1);
        Check.due("two are refused", bank.gate(0, 8), 2);
        Check.due("the third waits", bank.person(2, 0), 1);
        bank.pass(1);
        Check.due("the third is in the gate", bank.gate(0, 3), 2);
        bank = two(0, -1);
        bank.block(1, true);
        bank.pass(1);
        Check.due("refused", bank.person(1, 4), 2);
        Check.due("nobody out in this tick", bank.gate(0, 1), 0);
        Check.due("but in the next one", taken(bank), 0);
    }

    // ---- refusals

    /** Pool of 1: pass 0 is in use by person 0, who is inside; the credit is 9; pass 1 is free. */
    private static TurnstileBank used() {
        TurnstileBank bank = new TurnstileBank();
        bank.addGate(1, 1, 1, 1);
        bank.addPool(1);
        bank.credit(0, 19);
        bank.addPass(0);
        bank.addPass(0);
        bank.addPool(2);
        bank.addPass(1);
        bank.enter(0, 0, false);
        bank.pass(4);
        return bank;
    }

    /** The reason for which who comes to gate 0 is refused; another gate may have an event, too. */
    private static int reason(TurnstileBank bank, int pass) {
        int person = bank.enter(0, pass, false);
        int refused = bank.gate(0, 8);
        bank.pass(1);
        boolean isRefused = bank.person(person, 4) != 0;
        Check.due("where", bank.person(person, 0), isRefused ? 0 : 2);
        Check.due("refusals", bank.gate(0, 8), refused + (isRefused ? 1 : 0));
        int event = bank.event(0, 1) == 0 ? 0 : 1;
        Check.due("event", bank.event(event, 3), isRefused ? 1 : 0);
        Check.due("of the person", bank.event(event, 2), person);
        return bank.person(person, 4);
    }

    /** "is refused for the first of these reasons": each pair of them. */
    private static void eachReasonAheadOfTheNext() {
        Check.due("1 no pass", reason(used(), -1), 1);
        TurnstileBank bank = used();
        bank.block(0, true);
        Check.due("2 blocked, ahead of 3, 4 and 5", reason(bank, 0), 2);
        bank = used();
        bank.block(1, true);
        Check.due("2 blocked, ahead of 4 and 5", reason(bank, 1), 2);
        bank = used();
        bank.block(2, true);
        Check.due("2 blocked, ahead of 5", reason(bank, 2), 2);
        Check.due("3 in use, ahead of 4 and 5", reason(used(), 0), 3);
        Check.due("4 the limit, ahead of 5", reason(used(), 1), 4);
        Check.due("5 the credit", reason(used(), 2), 5);
        bank = used();
        bank.credit(1, 9);
        Check.due("5 the credit is 1 less", reason(bank, 2), 5);
        bank = used();
        bank.credit(1, 10);
        Check.due("the credit is just the fare", reason(bank, 2), 0);
        Check.due("used up", bank.pool(1, 0), 0);
        bank = used();
        bank.credit(0, 1);
        Check.due("3 in use, ahead of 4", reason(bank, 0), 3);
        bank = used();
        bank.setFare(0);
        Check.due("a fare of 0 with a credit of 0", reason(bank, 2), 0);
    }

    /** "in use from when its person goes on into a gate": in the same tick already. */
    private static void passInUseFromTheGateOn() {
        TurnstileBank bank = Scenes.gates(1, 1);
        bank.enter(1, 3, false);
        bank.enter(0, 3, false);
        Check.due("waiting is no use", bank.passOf(3, 2), NONE);
        bank.pass(1);
        Check.due("gate 0 comes first", bank.passOf(3, 2), 1);
        Check.due("gate 1 refuses in the same tick", bank.person(0, 4), 3);
    }

    /** "until that person is gone": in the tick in which it is so, by the order of the gates. */
    private static void passInUseUntilGone() {
        for (int out = 0; out <= 1; out++) {
            int in = 1 - out;
            TurnstileBank bank = out == 0 ? Scenes.gates(2, 1) : Scenes.gates(1, 2);
            bank.enter(in, 0, false);
            bank.pass(4);
            bank.exit(out, 0);
            bank.pass(3);
            bank.enter(in, 0, false);
            Check.due("one is gone", bank.pass(1), 1);
            Check.due("gate " + in + " comes " + (out == 0 ? "behind" : "ahead"),
                    bank.person(1, 4), out == 0 ? 0 : 3);
            Check.due("in use by", bank.passOf(0, 2), out == 0 ? 1 : NONE);
        }
    }

    /** "inside by passes of the pool (those who wait to go out, and those in gates, included)". */
    private static void limitCountsAllWhoAreInside() {
        Supplier<TurnstileBank> made = () -> {
            TurnstileBank bank = new TurnstileBank();
            bank.addGate(1, 1, 1, 1);
            bank.addGate(1, 3, 3, 3);
            bank.addGate(2, 3, 3, 3);
            bank.addPool(1);
            bank.addPool(1);
            bank.credit(0, 1000);
            bank.credit(1, 1000);
            bank.addPass(0);
            bank.addPass(0);
            bank.addPass(1);
            bank.enter(1, 0, false);
            return bank;
        };
        Check.due("waiting to go in does not count", reason(made.get(), 1), 0);
        TurnstileBank bank = made.get();
        bank.pass(1);
        Check.due("in a gate on the way in", reason(bank, 1), 4);
        Check.due("another pool", reason(bank, 2), 0);
        bank.pass(9);
        Check.due("inside", reason(bank, 1), 4);
        bank.fail(2);
        bank.exit(2, 0);
        Check.due("waiting to go out", reason(bank, 1), 4);
        bank.repair(2);
        bank.pass(1);
        Check.due("in a gate on the way out", reason(bank, 1), 4);
        Check.due("the last tick but one", bank.pass(7), 0);
        Check.due("in the tick in which one goes, gate 0 comes ahead", reason(bank, 1), 4);
        Check.due("gone", bank.person(0, 0), 5);
        Check.due("then there is room", reason(bank, 1), 0);
    }

    /** "as many people as its limit": one fewer is not as many. */
    private static void limitOneBelow() {
        for (int limit = 1; limit <= 11; limit++) {
            TurnstileBank bank = new TurnstileBank();
            bank.addGate(1, 1, 1, 1);
            bank.addPool(limit);
            bank.credit(0, 1000);
            for (int pass = 0; pass < 12; pass++) {
                bank.addPass(0);
            }
            for (int pass = 0; pass < limit; pass++) {
                Check.due("one of " + limit, reason(bank, pass), 0);
                bank.pass(3);
            }
            Check.due("one more than " + limit, reason(bank, limit), 4);
        }
    }

    /** "To go out costs nothing, and needs no pass": no credit, a blocked pass, a full pool. */
    private static void goingOutNeedsNothing() {
        TurnstileBank bank = used();
        bank.addGate(2, 1, 1, 1);
        bank.setFare(1000);
        bank.block(0, true);
        bank.exit(1, 0);
        Check.due("out", bank.pass(4), 1);
        Check.due("the credit stays", bank.pool(0, 0), 9);
        Check.due("no more fares", bank.count(8), 10);
        Check.due("no refusal", bank.count(7), 0);
        Check.due("event", bank.event(0, 3), 3);
        Check.due("let in is no event of it", bank.event(1, 3), 2);
    }

    /** "A refused person leaves the queue, and is outside for good." */
    private static void outsideForGood() {
        TurnstileBank bank = Scenes.gates(0, 0);
        bank.enter(0, -1, false);
        bank.pass(1);
        Check.due("the queue", bank.gate(0, 4), 0);
        Check.due("outside", bank.person(0, 0), 0);
        Check.due("at no gate", bank.person(0, 3), NONE);
        Check.due("not inside", bank.exit(0, 0), NOT_POSSIBLE);
        Check.due("nobody to be moved", bank.divert(0, 1), NONE);
        Check.due("it does not wait", bank.passesIn(0), NOT_POSSIBLE);
        bank.pass(200);
        Check.due("still", bank.person(0, 0), 0);
        Check.due("the next one has another number", bank.enter(0, 0, false), 1);
    }

    /** "In each tick, each gate does one step, in ascending order". */
    private static void gatesInAscendingOrder() {
        TurnstileBank bank = Scenes.gates(1, 1, 1, 1, 1, 1, 1, 1);
        for (int gate = 7; gate >= 0; gate--) {
            bank.enter(gate, gate, false);
        }
        bank.pass(4);
        for (int event = 0; event < 8; event++) {
            Check.due("inside, gate", bank.event(event, 1), 7 - event);
            Check.due("inside", bank.event(event, 3), 2);
            Check.due("tick", bank.event(event, 0), 3);
            Check.due("let in, gate", bank.event(event + 8, 1), 7 - event);
            Check.due("let in", bank.event(event + 8, 3), 0);
            Check.due("tick", bank.event(event + 8, 0), 0);
        }
        Check.due("no more", bank.event(16, 0), NONE);
    }

    // ---- pinches

    /** "the next tick in which it is closing is pinched": told in whichever state. */
    private static void pinchToldInEachState() {
        for (int state = 1; state <= 4; state++) {
            TurnstileBank bank = Scenes.gateIn(state);
            int before = bank.gate(0, 9);
            bank.pinch(0);
            for (int tick = 0; tick < 9 && bank.gate(0, 1) != 3; tick++) {
                Check.due("not pinched yet", bank.gate(0, 9), before);
                bank.pass(1);
            }
            Check.due("closing, told in state " + state, bank.gate(0, 2), 2);
            Check.due("not used up", bank.gate(0, 10), 1);
            bank.pass(1);
            Check.due("reversing, told in state " + state, bank.gate(0, 1), 4);
            Check.due("as long as it closed", bank.gate(0, 2), 1);
            Check.due("pinched", bank.gate(0, 9), before + 1);
            Check.due("used up", bank.gate(0, 10), 0);
            Check.due("then it passes", bank.pass(5), 1);
        }
        TurnstileBank bank = Scenes.gates(0);
        bank.pinch(0);
        bank.pass(9);
        Check.due("told while closed, with nobody", bank.gate(0, 10), 1);
        bank.enter(0, 0, false);
        bank.pass(3);
        steps("told while closed", bank, 4, 1, 2, 1, 3, 1, 0, 0);
    }

    /** "with as many ticks as this closing has taken (this one included)": 1 to 10. */
    private static void pinchInEachTickOfClosing() {
        for (int closing = 1; closing <= 10; closing++) {
            for (int tick = 1; tick <= closing; tick++) {
                TurnstileBank bank = Scenes.inOnly(1, 1, closing);
                bank.enter(0, 0, false);
                bank.pass(3 + tick - 1);
                String at = "tick " + tick + " of " + closing;
                Check.due(at + ": closing", bank.gate(0, 2), closing - tick + 1);
                Check.due(at, bank.pinch(0), 1);
                Check.due(at, bank.pass(1), 0);
                Check.due(at + ": reversing", bank.gate(0, 1), 4);
                Check.due(at + ": left", bank.gate(0, 2), tick);
                Check.due(at, bank.pass(tick - 1 > 0 ? tick - 1 : 1), 0);
                Check.due(at + ": reversing to the last tick", bank.gate(0, 1), tick > 1 ? 4 : 2);
                if (tick > 1) {
                    bank.pass(1);
                }
                Check.due(at + ": open", bank.gate(0, 1), 2);
                Check.due(at + ": open for its hold", bank.gate(0, 2), 1);
                Check.due(at + ": not yet", bank.pass(closing), 0);
                Check.due(at + ": passed", bank.pass(1), 1);
            }
        }
    }

    /** "pinches that are told several times before count once". */
    private static void pinchesToldSeveralTimes() {
        TurnstileBank bank = Scenes.gates(1);
        bank.enter(0, 0, false);
        for (int tick = 0; tick < 3; tick++) {
            Check.due("pinch(0)", bank.pinch(0), tick == 0 ? 0 : NONE);
            Check.due("pinch(0)", bank.pinch(0), NONE);
            bank.pass(1);
        }
        steps("pinched once", bank, 4, 1, 2, 1, 3, 1, 0, 0);
        Check.due("pinches", bank.gate(0, 9), 1);
        Check.due("events", bank.event(2, 3), 0);
        Check.due("events", bank.event(1, 3), 4);
        Check.due("events", bank.event(0, 3), 2);
    }

    private static TurnstileBank pinched(int times) {
        TurnstileBank bank = Scenes.gates(0);
        bank.enter(0, 0, false);
        bank.enter(0, 1, false);
        bank.pass(3);
        for (int i = 0; i < times; i++) {
            bank.pinch(0);
            bank.pass(1);
            if (bank.gate(0, 1) == 4) {
                bank.pass(2);
            }
        }
        return bank;
    }

    /** "With the third pinch ... out of order instead of reversing": not with the second. */
    private static void thirdPinch() {
        for (int times = 0; times <= 2; times++) {
            Check.due("closing behind " + times, pinched(times).gate(0, 1), 3);
            Check.due("pinches", pinched(times).gate(0, 9), times);
            Check.due("passes unless pinched", pinched(times).pass(1), 1);
        }
        TurnstileBank bank = pinched(3);
        Check.due("out of order", bank.gate(0, 1), 5);
        Check.due("pinches", bank.gate(0, 9), 3);
        Check.due("passed at once", bank.person(0, 0), 3);
        Check.due("counted", bank.gate(0, 6), 1);
        Check.due("the next one waits", bank.queued(0, 0, 0), 1);
        Check.due("nobody in it", bank.gate(0, 3), NONE);
        Check.due("no time left", bank.gate(0, 2), 0);
        Check.due("none told", bank.gate(0, 10), 0);
    }

    /** "while the same person is in it": neither of the one before, nor of another gate. */
    private static void pinchesOfTheSamePersonAlone() {
        TurnstileBank bank = pinched(2);
        bank.pass(1);
        bank.pass(3);
        for (int i = 0; i < 2; i++) {
            bank.pinch(0);
            bank.pass(1);
            Check.due("reversing, the next person", bank.gate(0, 1), 4);
            bank.pass(2);
        }
        bank.pinch(0);
        Check.due("the third one of this person", bank.pass(1), 1);
        Check.due("out of order", bank.gate(0, 1), 5);
        bank = Scenes.gates(1, 1);
        bank.enter(0, 0, false);
        bank.enter(1, 1, false);
        bank.pass(3);
        Check.runText(bank, "x0x1t3x0x1t3x1t1");
        Check.due("out of order", bank.gate(1, 1), 5);
        Check.due("the other one has passed", bank.gate(0, 6), 1);
        Check.due("the other one is closed", bank.gate(0, 1), 0);
        bank = pinched(2);
        bank.fail(0);
        bank.repair(0);
        bank.pass(3);
        bank.pinch(0);
        bank.pass(1);
        Check.due("behind a repair it is counted anew", bank.gate(0, 1), 4);
        bank = pinched(2);
        bank.pass(1);
        bank.exit(0, 0);
        bank.divert(0, 0);
        bank.setDirection(0, 2);
        bank.pass(3);
        bank.pinch(0);
        bank.pass(1);
        Check.due("behind the way in, on the way out", bank.gate(0, 1), 4);
    }

    // ---- outages

    /** "the person in it, if there is one, has passed at once": in each state, in and out. */
    private static void outageInEachState() {
        int[] ticks = {1, 2, 3};
        for (int state = 1; state <= 3; state++) {
            TurnstileBank bank = Scenes.gates(0);
            bank.enter(0, 0, false);
            bank.pass(4);
            bank.exit(0, 0);
            bank.enter(0, 1, false);
            bank.pass(ticks[state - 1]);
            Check.due("the state", bank.gate(0, 1), state);
            Check.due("fail(0)", bank.fail(0), 0);
            Check.due("gone", bank.person(0, 0), 5);
            Check.due("the pass is free", bank.passOf(0, 2), NONE);
            Check.due("passed out", bank.gate(0, 7), 1);
            Check.due("passed in", bank.gate(0, 6), 1);
            Check.due("the queue stays", bank.queued(0, 0, 0), 1);
            Check.due("people by the pool", bank.pool(0, 2), 0);
        }
    }

    private static void all(String of, IntUnaryOperator got, int... due) {
        for (int what = 0; what < due.length; what++) {
            Check.due(of + ", " + what, got.applyAsInt(what), due[what]);
        }
    }

    /** "(in either way)": all that is told behind the third pinch, on the way in and out. */
    private static void outageByTheThirdPinch() {
        TurnstileBank bank = Scenes.gates(2, 0);
        bank.enter(1, 7, false);
        bank.enter(1, 8, true);
        bank.enter(1, -1, false);
        Check.runText(bank, "t3x1t3x1t3x1");
        Check.due("inside by the third pinch", bank.pass(1), 1);
        all("gate 1", what -> bank.gate(1, what), 0, 5, 0, NONE, 2, 0, 1, 0, 0, 3, 0);
        all("person 0", what -> bank.person(0, what), 3, 7, 0, NONE, 0, 0);
        all("person 1", what -> bank.person(1, what), 1, 8, 1, 1, 0, 10);
        all("pool 0", what -> bank.pool(0, what), 990, 40, 1, 12, 10);
        Check.due("in use", bank.passOf(7, 2), 0);
        Check.due("the queue stays", bank.queued(1, 0, 1), 2);
        Check.due("people in both queues", bank.repair(1), 2);
        bank.exit(1, 0);
        bank.setDirection(1, 2);
        Check.runText(bank, "t3x1t3x1t3x1");
        Check.due("gone by the third pinch", bank.pass(1), 1);
        all("gate 1", what -> bank.gate(1, what), 2, 5, 0, NONE, 2, 0, 1, 1, 0, 6, 0);
        all("person 0", what -> bank.person(0, what), 5, 7, 0, NONE, 0, 0);
        all("person 1", what -> bank.person(1, what), 1, 8, 1, 1, 0, 20);
        all("pool 0", what -> bank.pool(0, what), 990, 40, 0, 12, 10);
        Check.due("in use no more", bank.passOf(7, 2), NONE);
        all("all", what -> bank.count(what), 20, 2, 3, 0, 2, 0, 1, 0, 10, 10, 1);
        bank.enter(0, 7, false);
        bank.setDirection(0, 1);
        Check.due("the pass can be used again", bank.pass(4), 1);
    }

    /** "a pinch that was told is forgotten": also with nobody in it. */
    private static void outageForgetsThePinch() {
        for (int state = 0; state <= 4; state++) {
            TurnstileBank bank = Scenes.gateIn(state);
            int pinches = bank.gate(0, 9);
            bank.pinch(0);
            bank.fail(0);
            Check.due("forgotten", bank.gate(0, 10), 0);
            Check.due("not told while out of order", bank.pinch(0), NOT_POSSIBLE);
            bank.repair(0);
            Check.due("with no pinch told", bank.gate(0, 10), 0);
            bank.setDirection(0, 1);
            Check.due("not pinched then", bank.pass(7), 1);
            Check.due("pinches", bank.gate(0, 9), pinches);
        }
    }

    /** "out of order: nothing." */
    private static void outOfOrderDoesNothing() {
        TurnstileBank bank = Scenes.gates(0, 1);
        bank.enter(1, 0, false);
        bank.pass(4);
        bank.fail(0);
        bank.exit(0, 0);
        bank.enter(0, 1, false);
        bank.enter(0, -1, false);
        Check.due("nobody passes", bank.pass(200), 0);
        Check.due("outer queue", bank.gate(0, 4), 2);
        Check.due("inner queue", bank.gate(0, 5), 1);
        Check.due("they wait", bank.person(0, 5), 200);
        Check.due("nobody is refused", bank.count(7), 0);
        Check.due("no event", bank.event(0, 3), 5);
    }

    /** "When it is repaired, it is closed": a tick later it takes the next person. */
    private static void repairedIsClosed() {
        TurnstileBank bank = Scenes.gateIn(Scenes.OPEN);
        bank.fail(0);
        bank.repair(0);
        Check.due("closed", bank.gate(0, 1), 0);
        Check.due("nobody in it", bank.gate(0, 3), NONE);
        steps("the next person", bank, 1, 2, 1, 1, 2, 2, 2, 1, 3, 2, 3, 1, 0, 0);
        Check.due("inside", bank.person(1, 0), 3);
    }

    // ---- events

    /** "Of one tick they stand in the order in which they happened." */
    private static void eventsOfOneTick() {
        TurnstileBank bank = Scenes.gates(1, 2, 1, 1);
        bank.enter(0, 0, false);
        bank.pass(4);
        bank.exit(1, 0);
        bank.enter(3, 1, false);
        bank.pass(3);
        bank.enter(0, 2, false);
        bank.enter(2, -1, false);
        bank.pinch(3);
        bank.pass(1);
        int[] gates = {3, 2, 1, 0};
        int[] people = {1, 3, 0, 2};
        int[] kinds = {4, 1, 3, 0};
        for (int event = 0; event < 4; event++) {
            Check.due("tick of event " + event, bank.event(event, 0), 7);
            Check.due("gate of event " + event, bank.event(event, 1), gates[event]);
            Check.due("person of event " + event, bank.event(event, 2), people[event]);
            Check.due("kind of event " + event, bank.event(event, 3), kinds[event]);
        }
        Check.due("before that", bank.event(4, 0), 4);
    }

    private static void events(TurnstileBank bank, int tick, int... peopleAndKinds) {
        for (int event = 0; 2 * event < peopleAndKinds.length; event++) {
            Check.due("tick of event " + event, bank.event(event, 0), tick);
            Check.due("gate of event " + event, bank.event(event, 1), 0);
            Check.due("person of event " + event, bank.event(event, 2), peopleAndKinds[2 * event]);
            Check.due("kind of event " + event, bank.event(event, 3),
                    peopleAndKinds[2 * event + 1]);
        }
    }

    /** "With the third pinch: pinched, then out of order, then inside or gone." */
    private static void eventsOfTheThirdPinch() {
        TurnstileBank bank = pinched(3);
        events(bank, 9, 0, 2, NONE, 5, 0, 4);
        bank = Scenes.gates(0);
        bank.enter(0, 0, false);
        bank.pass(4);
        bank.exit(0, 0);
        bank.pass(3);
        Check.runText(bank, "x0t3x0t3x0t1");
        events(bank, 13, 0, 3, NONE, 5, 0, 4);
    }

    /** "for fail() and repair() the present time"; "5 out of order (with nobody as the person)". */
    private static void eventsOfFailAndRepair() {
        TurnstileBank bank = Scenes.gates(1);
        bank.fail(0);
        events(bank, 0, NONE, 5);
        bank.repair(0);
        events(bank, 0, NONE, 6, NONE, 5);
        bank.enter(0, 0, false);
        bank.pass(2);
        bank.fail(0);
        events(bank, 2, 0, 2, NONE, 5);
        bank.pass(200);
        bank.repair(0);
        events(bank, 202, NONE, 6);
        Check.due("no others", bank.event(6, 0), NONE);
        Check.due("all six", bank.event(5, 3), 5);
    }

    // ---- errors and calls

    /** "Where several errors can apply, the order of the @return line is the order". */
    private static void orderOfErrors() {
        Supplier<TurnstileBank> full = Scenes::full;
        Check.due("addGate", full.get().addGate(3, 0, 0, 0), TurnstileBank.BAD_VALUE);
        Check.due("setDirection", full.get().setDirection(8, 3), TurnstileBank.UNKNOWN);
        Check.due("addPool", full.get().addPool(41), TurnstileBank.BAD_VALUE);
        Check.due("credit", full.get().credit(4, 0), TurnstileBank.UNKNOWN);
        Check.due("credit", full.get().credit(0, 100001), TurnstileBank.BAD_VALUE);
        Check.due("addPass", full.get().addPass(4), TurnstileBank.UNKNOWN);
        Check.due("enter", full.get().enter(0, 12, false), TurnstileBank.UNKNOWN);
        Check.due("divert", full.get().divert(8, 8), TurnstileBank.UNKNOWN);
        Check.due("divert", full.get().divert(7, 7), TurnstileBank.BAD_VALUE);
        Check.due("gate", full.get().gate(8, 11), TurnstileBank.UNKNOWN);
        Check.due("queued", full.get().queued(8, 2, -1), TurnstileBank.UNKNOWN);
        Check.due("queued", full.get().queued(7, 2, 50), TurnstileBank.BAD_VALUE);
        Check.due("event", full.get().event(50, 4), TurnstileBank.BAD_VALUE);
    }

    /** "An object is used for at most 512 calls": the last one is answered like the first. */
    private static void fiveHundredAndTwelveCalls() {
        TurnstileBank bank = new TurnstileBank();
        bank.addGate(0, 1, 1, 1);
        for (int call = 2; call <= 512; call++) {
            switch (call % 4) {
                case 0 -> Check.due("pass", bank.pass(200), 0);
                case 1 -> Check.due("fail", bank.fail(0), NONE);
                case 2 -> Check.due("event", bank.event(0, 0),
                        call == 2 ? NONE : 200 * ((call - 2) / 4));
                default -> Check.due("repair", bank.repair(0), call == 3 ? NOT_POSSIBLE : 0);
            }
        }
        theCall512OfEachKind();
    }

    /** Asked 511 times: person 0 is inside, 1 waits at gate 0, which is both ways; the text is t4. */
    private static TurnstileBank asked511Times() {
        TurnstileBank bank = Scenes.gates(0, 1);
        bank.enter(0, 0, false);
        bank.pass(4);
        bank.enter(0, 1, true);
        Check.type(bank, "t4");
        for (int call = 22; call <= 511; call++) {
            bank.count(call % 13);
        }
        return bank;
    }

    private static void last(String name, ToIntFunction<TurnstileBank> call, int due) {
        Check.due("the 512th call, " + name, call.applyAsInt(asked511Times()), due);
    }

    private static void theCall512OfEachKind() {
        last("addGate", x -> x.addGate(0, 1, 1, 1), 2);
        last("setDirection", x -> x.setDirection(1, 0), 1);
        last("addPool", x -> x.addPool(1), 1);
        last("credit", x -> x.credit(0, 10), 1000);
        last("addPass", x -> x.addPass(0), TurnstileBank.FULL);
        last("block", x -> x.block(3, true), 1);
        last("setFare", x -> x.setFare(3), 10);
        last("enter", x -> x.enter(1, 3, true), 2);
        last("exit", x -> x.exit(1, 0), 1);
        last("divert", x -> x.divert(0, 1), 1);
        last("pinch", x -> x.pinch(0), 0);
        last("fail", x -> x.fail(0), NONE);
        last("repair", x -> x.repair(0), NOT_POSSIBLE);
        last("pass", x -> x.pass(200), 1);
        last("type", x -> x.type('x'), 3);
        last("clearText", x -> x.clearText(), 2);
        last("run", x -> x.run(), 1);
        last("undo", x -> x.undo(), 3);
        last("gate", x -> x.gate(0, 6), 1);
        last("queued", x -> x.queued(0, 0, 0), 1);
        last("person", x -> x.person(0, 0), 3);
        last("pool", x -> x.pool(0, 0), 990);
        last("passOf", x -> x.passOf(0, 2), 0);
        last("event", x -> x.event(0, 3), 2);
        last("passesIn", x -> x.passesIn(1), 6);
        last("count", x -> x.count(0), 4);
    }
}
