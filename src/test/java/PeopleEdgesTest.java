/**
 * Promises 9 to 15, each sentence that names a boundary case: who and which gate there is, no
 * room, queues that are empty, states in which a call is refused, what is recorded.
 */
public final class PeopleEdgesTest {
    private static final int UNKNOWN = TurnstileBank.UNKNOWN;
    private static final int BAD_VALUE = TurnstileBank.BAD_VALUE;
    private static final int FULL = TurnstileBank.FULL;
    private static final int NOT_POSSIBLE = TurnstileBank.NOT_POSSIBLE;
    private static final int NONE = TurnstileBank.NONE;
    private static final int LEAST = Integer.MIN_VALUE;
    private static final int GREATEST = Integer.MAX_VALUE;

    public static void main(String[] arguments) {
        promise9Unknown();
        promise9APassOrNone();
        promise9FullIfThereAre40();
        promise9TheRefusedAndTheGoneCount();
        promise9BehindTheOuterQueue();
        promise10Unknown();
        promise10NotPossibleIfNotInside();
        promise10LengthOfTheQueue();
        promise11Unknown();
        promise11TheSameAndNobody();
        promise11OneOfTheQueues();
        promise11BehindThoseOfTheOther();
        promise11AllFortyPeople();
        promise11OutOfOrder();
        promise12Unknown();
        promise12InEachState();
        promise12ToldAlready();
        promise12UsedUp();
        promise13Unknown();
        promise13InEachState();
        promise13NobodyInItIsAnAct();
        promise14Unknown();
        promise14InEachState();
        promise14PeopleInBothQueues();
        promise15Ranges();
        promise15HowManyPassed();
        promise15ManyTicksAreSingleOnes();
        Check.end("PeopleEdgesTest");
    }

    // ---- promise 9

    /** "a gate; a pass, or -1 for none": UNKNOWN for both, ahead of FULL. */
    private static void promise9Unknown() {
        for (int gate : new int[] {-1, 3, 8, LEAST, GREATEST}) {
            Whole.refused("gate " + gate, Scenes::busy, x -> x.enter(gate, 0, false), UNKNOWN);
            Whole.refused("gate " + gate, Scenes::busy, x -> x.enter(gate, -1, true), UNKNOWN);
        }
        for (int pass : new int[] {-2, 12, NONE, LEAST, GREATEST}) {
            Whole.refused("pass " + pass, Scenes::busy, x -> x.enter(0, pass, false), UNKNOWN);
            Whole.refused("no room, pass " + pass, Scenes::full, x -> x.enter(0, pass, false),
                    UNKNOWN);
        }
        Whole.refused("no room, gate 8", Scenes::full, x -> x.enter(8, 0, false), UNKNOWN);
        Whole.refused("no room, gate -1", Scenes::full, x -> x.enter(-1, -1, false), UNKNOWN);
    }

    /** "a pass, or -1 for none". */
    private static void promise9APassOrNone() {
        for (int pass : new int[] {-1, 0, 11}) {
            TurnstileBank bank = Scenes.gates(2, 2);
            Check.due("enter(1, " + pass + ", true)", bank.enter(1, pass, true), 0);
            Check.due("its pass", bank.person(0, 1), pass == -1 ? NONE : pass);
            Check.due("its gate", bank.person(0, 3), 1);
            Check.due("it waits to go in", bank.person(0, 0), 1);
            Check.due("slow", bank.person(0, 2), 1);
        }
        TurnstileBank bank = new TurnstileBank();
        bank.addGate(1, 1, 1, 1);
        Check.due("there are no passes", bank.enter(0, 0, false), UNKNOWN);
        Check.due("none is needed to come", bank.enter(0, -1, false), 0);
        Check.due("not slow", bank.person(0, 2), 0);
        Whole.act("without a pass", Scenes::busy, x -> x.enter(2, -1, false), 10);
        Whole.act("with a blocked pass", Scenes::busy, x -> x.enter(2, 9, false), 10);
        Whole.act("at a gate that is out of order", Scenes::busy, x -> x.enter(0, 1, true), 10);
    }

    private static TurnstileBank people(int many) {
        TurnstileBank bank = Scenes.gates(2, 2);
        for (int person = 0; person < many; person++) {
            bank.enter(person % 2, person % 13 - 1, false);
        }
        bank.undo();
        bank.enter((many - 1) % 2, (many - 1) % 13 - 1, false);
        return bank;
    }

    /** "FULL if there are 40 people". */
    private static void promise9FullIfThereAre40() {
        Check.due("39 people", people(39).count(2), 39);
        Whole.act("the last free place", () -> people(39), x -> x.enter(0, -1, false), 39);
        Whole.refused("no free place", () -> people(40), x -> x.enter(0, -1, false), FULL);
        Whole.refused("no free place", () -> people(40), x -> x.enter(1, 11, true), FULL);
        for (int gate = 0; gate < 8; gate++) {
            int at = gate;
            Whole.refused("no free place, gate " + at, Scenes::full, x -> x.enter(at, 3, true),
                    FULL);
        }
        TurnstileBank bank = Scenes.full();
        Check.due("one wants out", bank.exit(1, 0), 1);
        bank.setFare(3);
        Check.due("no free place, queues on both ends", bank.enter(1, 0, false), FULL);
        Check.due("person 39", people(40).person(39, 0), 1);
        Check.due("no person 40", people(40).person(40, 0), UNKNOWN);
    }

    /** "There are up to 40 people": who is refused or gone keeps the number. */
    private static void promise9TheRefusedAndTheGoneCount() {
        TurnstileBank bank = Scenes.gates(0);
        bank.enter(0, 0, false);
        bank.pass(4);
        bank.exit(0, 0);
        bank.pass(4);
        for (int person = 1; person < 40; person++) {
            Check.due("enter", bank.enter(0, -1, false), person);
            bank.pass(1);
        }
        Check.due("nobody waits", bank.count(4), 0);
        Check.due("one is gone", bank.count(6), 1);
        Check.due("all others are refused", bank.count(7), 39);
        Check.due("no free place", bank.enter(0, -1, false), FULL);
    }

    /** "behind the outer queue of a gate". */
    private static void promise9BehindTheOuterQueue() {
        TurnstileBank bank = Scenes.gates(2, 2);
        for (int person = 0; person < 10; person++) {
            bank.enter(person % 2, person, false);
            Check.due("length", bank.gate(person % 2, 4), person / 2 + 1);
            Check.due("the last place", bank.queued(person % 2, 0, person / 2), person);
            Check.due("none behind", bank.queued(person % 2, 0, person / 2 + 1), NONE);
            Check.due("the first place", bank.queued(person % 2, 0, 0), person % 2);
            Check.due("inner queue", bank.gate(person % 2, 5), 0);
        }
    }

    // ---- promise 10

    /** "a gate; a person": UNKNOWN for both, ahead of NOT_POSSIBLE. */
    private static void promise10Unknown() {
        for (int gate : new int[] {-1, 2, 8, LEAST, GREATEST}) {
            Whole.refused("gate " + gate, Scenes::everywhere, x -> x.exit(gate, 2), UNKNOWN);
            Whole.refused("gate " + gate, Scenes::everywhere, x -> x.exit(gate, 0), UNKNOWN);
        }
        for (int person : new int[] {-1, 6, 40, LEAST, GREATEST}) {
            Whole.refused("person " + person, Scenes::everywhere, x -> x.exit(0, person), UNKNOWN);
        }
        Whole.refused("person 40 of 40", Scenes::full, x -> x.exit(0, 40), UNKNOWN);
    }

    /** "NOT_POSSIBLE if the person is not inside". */
    private static void promise10NotPossibleIfNotInside() {
        int[] where = {5, 4, 3, 0, 2, 1};
        for (int person = 0; person < 6; person++) {
            int asked = person;
            Check.due("where " + person, Scenes.everywhere().person(person, 0), where[person]);
            for (int gate = 0; gate <= 1; gate++) {
                int at = gate;
                if (person == 2) {
                    Whole.act("who is inside", Scenes::everywhere, x -> x.exit(at, asked), 1 + at);
                } else {
                    Whole.refused("who is " + where[person], Scenes::everywhere,
                            x -> x.exit(at, asked), NOT_POSSIBLE);
                }
            }
        }
    }

    /** "Returns the length of the queue then": of the inner queue alone. */
    private static void promise10LengthOfTheQueue() {
        TurnstileBank bank = Scenes.gates(1, 1);
        for (int person = 0; person < 4; person++) {
            bank.enter(0, person, false);
        }
        bank.pass(16);
        bank.enter(1, 5, false);
        Check.due("empty before", bank.exit(1, 3), 1);
        Check.due("one before", bank.exit(1, 0), 2);
        Check.due("another gate", bank.exit(0, 2), 1);
        Check.due("two before", bank.exit(1, 1), 3);
        int[] queue = {3, 0, 1, NONE};
        for (int place = 0; place < queue.length; place++) {
            Check.due("place " + place, bank.queued(1, 1, place), queue[place]);
        }
        Check.due("the outer queue is as it was", bank.queued(1, 0, 0), 4);
        Check.due("it waits to go out", bank.person(3, 0), 4);
        Check.due("at gate 1", bank.person(3, 3), 1);
    }

    // ---- promise 11

    /** "a gate; another gate": UNKNOWN for both, ahead of BAD_VALUE. */
    private static void promise11Unknown() {
        for (int gate : new int[] {-1, 3, 8, LEAST, GREATEST}) {
            Whole.refused("from " + gate, Scenes::busy, x -> x.divert(gate, 0), UNKNOWN);
            Whole.refused("to " + gate, Scenes::busy, x -> x.divert(0, gate), UNKNOWN);
            Whole.refused("from and to " + gate, Scenes::busy, x -> x.divert(gate, gate), UNKNOWN);
        }
    }

    /** "BAD_VALUE if both are the same; NONE if there are none". */
    private static void promise11TheSameAndNobody() {
        Whole.refused("the same, with people", Scenes::everywhere, x -> x.divert(0, 0), BAD_VALUE);
        Whole.refused("the same, with nobody", () -> Scenes.gates(0, 0), x -> x.divert(1, 1),
                BAD_VALUE);
        Whole.refused("nobody", () -> Scenes.gates(0, 0), x -> x.divert(0, 1), NONE);
        Whole.refused("nobody but at the other", () -> people(1), x -> x.divert(1, 0), NONE);
        Whole.refused("nobody but in the gate", PeopleEdgesTest::onlyInTheGate,
                x -> x.divert(0, 1), NONE);
    }

    private static TurnstileBank onlyInTheGate() {
        TurnstileBank bank = Scenes.gates(1, 1);
        bank.enter(0, 0, false);
        bank.pass(1);
        bank.undo();
        bank.pass(1);
        return bank;
    }

    /** "Moves all people of both queues": also if one of them is empty. */
    private static void promise11OneOfTheQueues() {
        Whole.act("outer alone", Scenes::everywhere, x -> x.divert(0, 1), 1);
        Whole.act("inner alone", Scenes::everywhere, x -> x.divert(1, 0), 1);
        TurnstileBank bank = Scenes.everywhere();
        bank.divert(1, 0);
        Check.due("inner stays inner", bank.queued(0, 1, 0), 1);
        Check.due("outer as it was", bank.queued(0, 0, 0), 5);
        Check.due("outer as long", bank.gate(0, 4), 1);
        Check.due("none is left", bank.gate(1, 5), 0);
        Check.due("both", bank.divert(0, 1), 2);
        Check.due("outer stays outer", bank.queued(1, 0, 0), 5);
        Check.due("inner stays inner", bank.queued(1, 1, 0), 1);
        Check.due("it waits to go in still", bank.person(5, 0), 1);
        Check.due("it waits to go out still", bank.person(1, 0), 4);
        Check.due("who is in the gate stays in it", bank.person(4, 3), 0);
        Check.due("who is in the gate stays in it", bank.gate(0, 3), 4);
        Check.due("none is left", bank.divert(0, 1), NONE);
    }

    /** "behind those of another gate, in their order". */
    private static void promise11BehindThoseOfTheOther() {
        TurnstileBank bank = Scenes.gates(2, 2, 2);
        int[] gates = {1, 0, 2, 0, 1, 1, 0};
        for (int gate : gates) {
            bank.enter(gate, -1, false);
        }
        Check.due("divert(0, 1)", bank.divert(0, 1), 3);
        int[] queue = {0, 4, 5, 1, 3, 6, NONE};
        for (int place = 0; place < queue.length; place++) {
            Check.due("place " + place, bank.queued(1, 0, place), queue[place]);
        }
        Check.due("a third gate", bank.queued(2, 0, 0), 2);
        Check.due("divert(1, 2)", bank.divert(1, 2), 6);
        Check.due("who was there", bank.queued(2, 0, 0), 2);
        Check.due("the last", bank.queued(2, 0, 6), 6);
        for (int person = 0; person < 7; person++) {
            Check.due("the gate of " + person, bank.person(person, 3), 2);
        }
    }

    /** All 40 people in one queue are moved, and all in two. */
    private static void promise11AllFortyPeople() {
        TurnstileBank bank = people(40);
        Check.due("half of them", bank.divert(1, 0), 20);
        Check.due("the longest queue", bank.gate(0, 4), 40);
        Check.due("its last", bank.queued(0, 0, 39), 39);
        Check.due("all", bank.divert(0, 1), 40);
        Check.due("there", bank.gate(1, 4), 40);
        Check.due("its first", bank.queued(1, 0, 0), 0);
        Check.due("its middle", bank.queued(1, 0, 20), 1);
        Check.due("its last", bank.queued(1, 0, 39), 39);
        Check.due("none here", bank.gate(0, 4), 0);
        Check.due("none here", bank.queued(0, 0, 0), NONE);
    }

    /** "People in the queues of a gate can be moved to another gate": out of order or not. */
    private static void promise11OutOfOrder() {
        TurnstileBank bank = people(5);
        bank.fail(0);
        Check.due("to a gate out of order", bank.divert(1, 0), 2);
        bank.fail(1);
        Check.due("from one to the other", bank.divert(0, 1), 5);
        bank.repair(0);
        Check.due("from a gate out of order", bank.divert(1, 0), 5);
        Check.due("its state stays", bank.gate(1, 1), 5);
    }

    // ---- promise 12

    private static void promise12Unknown() {
        for (int gate : new int[] {-1, 3, 8, LEAST, GREATEST}) {
            Whole.refused("pinch(" + gate + ")", Scenes::busy, x -> x.pinch(gate), UNKNOWN);
        }
    }

    /** "1 if the gate is closing now, otherwise 0; NOT_POSSIBLE if it is out of order". */
    private static void promise12InEachState() {
        int[] due = {0, 0, 0, 1, 0, NOT_POSSIBLE};
        for (int state = 0; state <= 5; state++) {
            int in = state;
            Check.due("the state", Scenes.gateIn(in).gate(0, 1), in);
            if (state == Scenes.OUT_OF_ORDER) {
                Whole.refused("out of order", () -> Scenes.gateIn(in), x -> x.pinch(0),
                        NOT_POSSIBLE);
            } else {
                Whole.act("in state " + in, () -> Scenes.gateIn(in), x -> x.pinch(0), due[in]);
                TurnstileBank bank = Scenes.gateIn(in);
                bank.pinch(0);
                Check.due("told in state " + in, bank.gate(0, 10), 1);
                Check.due("the state is as it was", bank.gate(0, 1), in);
            }
        }
    }

    /** "NONE if one is told already, and was not used up"; NOT_POSSIBLE comes ahead of it. */
    private static void promise12ToldAlready() {
        for (int state = 0; state < 5; state++) {
            int in = state;
            Whole.refused("told in state " + in,
                    Whole.then(() -> Scenes.gateIn(in), x -> x.pinch(0)), x -> x.pinch(0), NONE);
        }
        TurnstileBank bank = Scenes.inOnly(1, 1, 1);
        bank.pinch(0);
        bank.enter(0, 0, false);
        for (int tick = 0; tick < 3; tick++) {
            Check.due("not used up yet", bank.pinch(0), NONE);
            bank.pass(1);
        }
        Check.due("closing, told ahead", bank.gate(0, 1), 3);
        Check.due("closing, told ahead", bank.pinch(0), NONE);
        bank.fail(0);
        Check.due("out of order", bank.pinch(0), NOT_POSSIBLE);
        Check.due("another gate is another one", Scenes.busy().pinch(2), 0);
    }

    /** A pinch that was used up, or forgotten, can be told again. */
    private static void promise12UsedUp() {
        TurnstileBank bank = Scenes.gateIn(Scenes.CLOSING);
        Check.due("told", bank.pinch(0), 1);
        bank.pass(1);
        Check.due("used up", bank.gate(0, 10), 0);
        Check.due("told again", bank.pinch(0), 0);
        bank.pass(1);
        bank.fail(0);
        Check.due("forgotten", bank.gate(0, 10), 0);
        bank.repair(0);
        Check.due("still forgotten", bank.gate(0, 10), 0);
        Check.due("told again", bank.pinch(0), 0);
        Check.due("told", bank.gate(0, 10), 1);
    }

    // ---- promise 13

    private static void promise13Unknown() {
        for (int gate : new int[] {-1, 3, 8, LEAST, GREATEST}) {
            Whole.refused("fail(" + gate + ")", Scenes::busy, x -> x.fail(gate), UNKNOWN);
        }
    }

    /** "Returns the person who is let through, NONE if there is nobody in it; NOT_POSSIBLE". */
    private static void promise13InEachState() {
        for (int state = 0; state < 5; state++) {
            int in = state;
            Whole.act("fail(0) in state " + in, () -> Scenes.gateIn(in), x -> x.fail(0),
                    state == 0 ? NONE : 0);
            TurnstileBank bank = Scenes.gateIn(in);
            int time = bank.count(0);
            bank.fail(0);
            Check.due("out of order", bank.gate(0, 1), 5);
            Check.due("no time left", bank.gate(0, 2), 0);
            Check.due("nobody in it", bank.gate(0, 3), NONE);
            Check.due("passed in", bank.gate(0, 6), state == 0 ? 0 : 1);
            Check.due("the queue stays", bank.gate(0, 4), state == 0 ? 2 : 1);
            Check.due("where person 0 is", bank.person(0, 0), state == 0 ? 1 : 3);
            Check.due("out of order", bank.event(state == 0 ? 0 : 1, 3), 5);
            Check.due("with nobody", bank.event(state == 0 ? 0 : 1, 2), NONE);
            Check.due("latest event", bank.event(0, 3), state == 0 ? 5 : 2);
            Check.due("latest event, person", bank.event(0, 2), state == 0 ? NONE : 0);
            Check.due("latest event, tick", bank.event(0, 0), time);
            Check.due("no time went by", bank.count(0), time);
        }
        Whole.refused("out of order", () -> Scenes.gateIn(5), x -> x.fail(0), NOT_POSSIBLE);
    }

    /** "NONE if there is nobody in it (this is an act, too, and is recorded)". */
    private static void promise13NobodyInItIsAnAct() {
        Whole.act("a gate without people", () -> Scenes.gates(0), x -> x.fail(0), NONE);
        Whole.act("all states are there", Scenes::full, x -> x.fail(7), NONE);
        TurnstileBank bank = new TurnstileBank();
        bank.addGate(0, 1, 1, 1);
        Check.due("states", bank.count(11), 1);
        Check.due("fail(0)", bank.fail(0), NONE);
        Check.due("states", bank.count(11), 2);
        Check.due("undo()", bank.undo(), 1);
        Check.due("closed", bank.gate(0, 1), 0);
        Check.due("no event", bank.event(0, 0), NONE);
    }

    // ---- promise 14

    private static void promise14Unknown() {
        for (int gate : new int[] {-1, 3, 8, LEAST, GREATEST}) {
            Whole.refused("repair(" + gate + ")", Scenes::busy, x -> x.repair(gate), UNKNOWN);
        }
    }

    /** "NOT_POSSIBLE if it is not out of order". */
    private static void promise14InEachState() {
        for (int state = 0; state < 5; state++) {
            int in = state;
            Whole.refused("repair(0) in state " + in, () -> Scenes.gateIn(in), x -> x.repair(0),
                    NOT_POSSIBLE);
            Whole.refused("repair(0) in state " + in + ", pinch told",
                    Whole.then(() -> Scenes.gateIn(in), x -> x.pinch(0)), x -> x.repair(0),
                    NOT_POSSIBLE);
        }
        Whole.act("out of order", () -> Scenes.gateIn(5), x -> x.repair(0), 2);
        TurnstileBank bank = Scenes.gateIn(5);
        bank.repair(0);
        int[] due = {2, 0, 0, NONE, 2, 0, 0, 0, 0, 0, 0};
        for (int what = 0; what < due.length; what++) {
            Check.due("gate(0, " + what + ")", bank.gate(0, what), due[what]);
        }
        Check.due("event", bank.event(0, 3), 6);
        Check.due("nobody", bank.event(0, 2), NONE);
        Check.due("the present time", bank.event(0, 0), bank.count(0));
    }

    /** "Returns the people in both queues": nobody, in one of them, in both. */
    private static void promise14PeopleInBothQueues() {
        for (int inner = 0; inner <= 2; inner++) {
            for (int outer = 0; outer <= 2; outer++) {
                TurnstileBank bank = Scenes.gates(1, 2);
                bank.enter(0, 0, false);
                bank.enter(0, 1, false);
                bank.pass(8);
                bank.fail(1);
                for (int i = 0; i < inner; i++) {
                    bank.exit(1, i);
                }
                for (int i = 0; i < outer; i++) {
                    bank.enter(1, -1, false);
                }
                Check.due("repair(1)", bank.repair(1), inner + outer);
            }
        }
    }

    // ---- promise 15

    /** "ticks: 1 to 200". */
    private static void promise15Ranges() {
        for (int ticks : new int[] {0, 201, -1, LEAST, GREATEST}) {
            Whole.refused("pass(" + ticks + ")", Scenes::busy, x -> x.pass(ticks), BAD_VALUE);
        }
        for (int ticks : new int[] {1, 2, 199, 200}) {
            Whole.act("pass(" + ticks + ")", () -> Scenes.gateIn(5), x -> x.pass(ticks), 0);
            TurnstileBank bank = new TurnstileBank();
            Check.due("pass(" + ticks + ")", bank.pass(ticks), 0);
            Check.due("time", bank.count(0), ticks);
        }
        Whole.act("somebody passes", () -> Scenes.gateIn(3), x -> x.pass(2), 1);
    }

    /** "Returns how many people became inside or gone in them". */
    private static void promise15HowManyPassed() {
        TurnstileBank bank = Scenes.gates(1, 2, 1);
        for (int person = 0; person < 3; person++) {
            bank.enter(0, person, false);
        }
        Check.due("one tick too few", bank.pass(3), 0);
        Check.due("just in it", bank.pass(1), 1);
        Check.due("counted once", bank.pass(1), 0);
        bank.exit(1, 0);
        Check.due("in, and out", bank.pass(7), 3);
        bank.enter(0, -1, false);
        Check.due("refusals do not count", bank.pass(1), 0);
        bank.enter(0, 4, false);
        bank.enter(2, 5, false);
        bank.pass(1);
        bank.fail(0);
        Check.due("who passed by fail() did so ahead", bank.pass(3), 1);
        bank.exit(1, 1);
        bank.pass(1);
        Check.runText(bank, "t2x1t1t2x1t1t2x1");
        Check.due("closing", bank.gate(1, 1), 3);
        Check.due("who passes by the third pinch counts", bank.pass(1), 1);
        Check.due("gone", bank.person(1, 0), 5);
        Check.due("out of order", bank.gate(1, 1), 5);
    }

    /** So many ticks at once are as many single ones. */
    private static void promise15ManyTicksAreSingleOnes() {
        for (int ticks : new int[] {2, 3, 20, 200}) {
            String single = Whole.state(() -> {
                TurnstileBank bank = Scenes.busy();
                for (int i = 0; i < ticks; i++) {
                    bank.pass(1);
                }
                return bank;
            });
            Check.due(ticks + " ticks", Whole.state(Whole.then(Scenes::busy, x -> x.pass(ticks)))
                    .equals(single));
        }
    }
}
