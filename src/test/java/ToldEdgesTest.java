import java.util.function.IntBinaryOperator;
import java.util.function.ToIntFunction;

/**
 * Promises 20 to 27, each sentence that names a boundary case: the numbers that there are and one
 * beyond them, each property and one beyond them, empty and full queues, the oldest event, 500
 * ticks.
 */
public final class ToldEdgesTest {
    private static final int UNKNOWN = TurnstileBank.UNKNOWN;
    private static final int BAD_VALUE = TurnstileBank.BAD_VALUE;
    private static final int NOT_POSSIBLE = TurnstileBank.NOT_POSSIBLE;
    private static final int NONE = TurnstileBank.NONE;
    private static final int LEAST = Integer.MIN_VALUE;
    private static final int GREATEST = Integer.MAX_VALUE;

    public static void main(String[] arguments) {
        unknownAheadOfBadValue();
        promise20InEachState();
        promise20Counters();
        promise20PinchTold();
        promise21Bounds();
        promise21FirstAndLastPlace();
        promise21FortyPlaces();
        promise22WhereThePersonIs();
        promise22PassAndSlow();
        promise22ReasonOfTheRefusal();
        promise22TicksWaited();
        promise23PeopleInsideByIt();
        promise23Fares();
        promise23Passes();
        promise24InUse();
        promise25Bounds();
        promise25NoneIfThereAreNotSoMany();
        promise25OldestIsDropped();
        promise26NeitherWaitsNorInAGate();
        promise26InEachState();
        promise26OneTick();
        promise26FiveHundredTicks();
        promise26NotWithin500();
        promise26PinchTold();
        promise26AllGatesGoOn();
        promise26WhoHasWaitedLonger();
        promise26EachPoolForItself();
        promise26FromThePresentStateOn();
        promise26ChangesNothing();
        promise27Bounds();
        promise27NobodyAndFull();
        promise27EachPlaceOfPeople();
        promise27LowestOfSeveral();
        promise27HistoryAndText();
        Check.end("ToldEdgesTest");
    }

    /** The numbers from -1 to one above the most, and each property from -1 to one above. */
    private static void bounds(String name, int there, int properties, IntBinaryOperator asked) {
        for (int number : new int[] {-1, there, there + 1, 100, LEAST, GREATEST}) {
            for (int what : new int[] {-1, 0, properties - 1, properties, LEAST, GREATEST}) {
                Check.due(name + "(" + number + ", " + what + ")",
                        asked.applyAsInt(number, what), UNKNOWN);
            }
        }
        for (int number = 0; number < there; number++) {
            for (int what : new int[] {-1, properties, properties + 1, LEAST, GREATEST}) {
                Check.due(name + "(" + number + ", " + what + ")",
                        asked.applyAsInt(number, what), BAD_VALUE);
            }
            for (int what = 0; what < properties; what++) {
                int got = asked.applyAsInt(number, what);
                Check.due(name + "(" + number + ", " + what + ") is told",
                        got >= 0 || got == NONE);
            }
        }
    }

    /** "Returns the property; UNKNOWN; BAD_VALUE", in this order. */
    private static void unknownAheadOfBadValue() {
        bounds("gate", 3, 11, (a, b) -> Scenes.busy().gate(a, b));
        bounds("person", 10, 6, (a, b) -> Scenes.busy().person(a, b));
        bounds("pool", 2, 5, (a, b) -> Scenes.busy().pool(a, b));
        bounds("passOf", 12, 3, (a, b) -> Scenes.busy().passOf(a, b));
        bounds("gate", 8, 11, (a, b) -> Scenes.full().gate(a, b));
        bounds("person", 40, 6, (a, b) -> Scenes.full().person(a, b));
        bounds("pool", 4, 5, (a, b) -> Scenes.full().pool(a, b));
        bounds("passOf", 12, 3, (a, b) -> Scenes.full().passOf(a, b));
    }

    private static void row(String of, ToIntFunction<Integer> got, int... due) {
        for (int what = 0; what < due.length; what++) {
            Check.due(of + ", " + what, got.applyAsInt(what), due[what]);
        }
    }

    // ---- promise 20

    /** "the time that is left in the state (0 if it is closed or out of order)", NONE. */
    private static void promise20InEachState() {
        int[] left = {0, 2, 2, 2, 1, 0};
        for (int state = 0; state <= 5; state++) {
            TurnstileBank bank = Scenes.gateIn(state);
            boolean working = state >= 1 && state <= 4;
            row("state " + state, what -> bank.gate(0, what), state == 0 || state == 5 ? 2 : 1,
                    state, left[state], working ? 0 : NONE, working ? 1 : 2, 0, 0, 0, 0,
                    state == 4 ? 1 : 0, 0);
        }
        TurnstileBank bank = Scenes.inOnly(10, 20, 10);
        bank.enter(0, 0, true);
        int[] ticks = {1, 9, 1, 21, 1, 9, 1};
        int[] most = {10, 1, 22, 1, 10, 1, 0};
        for (int i = 0; i < ticks.length; i++) {
            bank.pass(ticks[i]);
            Check.due("left behind tick " + bank.count(0), bank.gate(0, 2), most[i]);
        }
    }

    /** "people who passed it in, 7 out, 8 for those who were refused, 9 for pinches". */
    private static void promise20Counters() {
        TurnstileBank bank = Scenes.gates(0, 0);
        bank.enter(0, 0, false);
        bank.enter(0, -1, false);
        bank.enter(0, 1, false);
        bank.enter(0, -1, false);
        Check.runText(bank, "t3x0t1t8t4");
        row("gate 0", what -> bank.gate(0, what), 0, 0, 0, NONE, 0, 0, 2, 0, 2, 1, 0);
        row("gate 1", what -> bank.gate(1, what), 0, 0, 0, NONE, 0, 0, 0, 0, 0, 0, 0);
        bank.exit(1, 0);
        bank.exit(0, 2);
        bank.enter(1, 0, false);
        bank.pass(9);
        row("gate 0", what -> bank.gate(0, what), 0, 0, 0, NONE, 0, 0, 2, 1, 2, 1, 0);
        row("gate 1", what -> bank.gate(1, what), 0, 0, 0, NONE, 0, 0, 1, 1, 0, 0, 0);
        bank.enter(0, -1, false);
        bank.divert(0, 1);
        bank.pass(1);
        Check.due("refused where it was at last", bank.gate(1, 8), 1);
        Check.due("not where it came", bank.gate(0, 8), 2);
        bank.fail(0);
        bank.repair(0);
        row("the counters stay", what -> bank.gate(0, what), 0, 0, 0, NONE, 0, 0, 2, 1, 2, 1, 0);
    }

    /** "9 for pinches, 10 for whether a pinch is told (1, otherwise 0)". */
    private static void promise20PinchTold() {
        TurnstileBank bank = Scenes.gates(1, 1);
        bank.enter(1, 0, false);
        bank.pinch(1);
        bank.pinch(1);
        Check.due("told", bank.gate(1, 10), 1);
        Check.due("not at gate 0", bank.gate(0, 10), 0);
        bank.pass(3);
        Check.due("closing, told still", bank.gate(1, 10), 1);
        Check.due("no pinch yet", bank.gate(1, 9), 0);
        bank.pass(1);
        Check.due("told no more", bank.gate(1, 10), 0);
        Check.due("one pinch", bank.gate(1, 9), 1);
        Check.runText(bank, "x1t3x1t3");
        Check.due("two told, two pinches more, the last one breaks it", bank.gate(1, 9), 3);
        Check.due("out of order", bank.gate(1, 1), 5);
        bank.repair(1);
        bank.enter(1, 1, false);
        Check.runText(bank, "x1t4");
        Check.due("it goes on over people", bank.gate(1, 9), 4);
        Check.due("gate 0", bank.gate(0, 9), 0);
    }

    // ---- promise 21

    private static void queued(int due, int... asked) {
        Whole.only("queued(" + asked[0] + ", " + asked[1] + ", " + asked[2] + ")", Scenes::busy,
                x -> x.queued(asked[0], asked[1], asked[2]), due);
    }

    /** "UNKNOWN; BAD_VALUE if end is out of range or place is negative; NONE". */
    private static void promise21Bounds() {
        for (int gate : new int[] {-1, 3, 8, LEAST, GREATEST}) {
            queued(UNKNOWN, gate, 0, 0);
            queued(UNKNOWN, gate, 2, -1);
        }
        for (int end : new int[] {-1, 2, LEAST, GREATEST}) {
            queued(BAD_VALUE, 0, end, 0);
            queued(BAD_VALUE, 0, end, 40);
            queued(BAD_VALUE, 0, end, -1);
        }
        for (int place : new int[] {-1, LEAST}) {
            queued(BAD_VALUE, 0, 0, place);
            queued(BAD_VALUE, 0, 1, place);
            queued(BAD_VALUE, 1, 1, place);
        }
        queued(8, 0, 0, 0);
        queued(2, 0, 1, 0);
        queued(7, 2, 0, 0);
        queued(NONE, 2, 1, 0);
        queued(NONE, 0, 0, 1);
        queued(NONE, 0, 1, 1);
        queued(NONE, 0, 0, 40);
        queued(NONE, 0, 0, GREATEST);
    }

    /** "a place in it, from 0; NONE if it is not so long". */
    private static void promise21FirstAndLastPlace() {
        TurnstileBank bank = Scenes.gates(1, 1);
        for (int person = 0; person < 4; person++) {
            for (int place = person; place < 6; place++) {
                Check.due("not so long", bank.queued(0, 0, place), NONE);
            }
            bank.enter(0, person, false);
            Check.due("the last place", bank.queued(0, 0, person), person);
        }
        for (int served = 0; served < 4; served++) {
            Check.due("the first one", bank.queued(0, 0, 0), served);
            Check.due("the last one", bank.queued(0, 0, 3 - served), 3);
            Check.due("not so long", bank.queued(0, 0, 4 - served), NONE);
            bank.pass(4);
        }
        Check.due("empty", bank.queued(0, 0, 0), NONE);
        for (int left = 0; left < 4; left++) {
            Check.due("not so long", bank.queued(1, 1, left), NONE);
            bank.exit(1, 3 - left);
            Check.due("the last place", bank.queued(1, 1, left), 3 - left);
            Check.due("the first place", bank.queued(1, 1, 0), 3);
        }
    }

    private static void promise21FortyPlaces() {
        TurnstileBank bank = Scenes.gates(2);
        for (int person = 0; person < 40; person++) {
            bank.enter(0, -1, false);
        }
        for (int place = 0; place < 40; place++) {
            Check.due("place " + place, bank.queued(0, 0, place), place);
        }
        Check.due("place 40", bank.queued(0, 0, 40), NONE);
        Check.due("place 41", bank.queued(0, 0, 41), NONE);
        bank.setDirection(0, 0);
        for (int served = 1; served <= 40; served++) {
            bank.pass(1);
            Check.due("the first one", bank.queued(0, 0, 0), served < 40 ? served : NONE);
            Check.due("the last one", bank.queued(0, 0, 39 - served), served < 40 ? 39 : BAD_VALUE);
            Check.due("not so long", bank.queued(0, 0, 40 - served), NONE);
        }
    }

    // ---- promise 22

    /** "0 outside, 1 waiting to go in, 2 in a gate, 3 inside, 4 waiting to go out, 5 gone". */
    private static void promise22WhereThePersonIs() {
        int[] where = {5, 4, 3, 0, 2, 1};
        int[] gates = {NONE, 1, NONE, NONE, 0, 0};
        int[] waited = {0, 1, 0, 0, 0, 14};
        for (int i = 0; i < 6; i++) {
            int person = i;
            TurnstileBank bank = Scenes.everywhere();
            row("person " + person, what -> bank.person(person, what), where[person],
                    person == 3 ? NONE : person, 0, gates[person], person == 3 ? 1 : 0,
                    waited[person]);
        }
    }

    /** "1 for the pass (NONE), 2 for whether slow (1, otherwise 0)": in each place. */
    private static void promise22PassAndSlow() {
        TurnstileBank bank = Scenes.gates(0);
        bank.enter(0, 11, true);
        bank.enter(0, -1, false);
        for (int tick = 0; tick < 14; tick++) {
            Check.due("pass 11", bank.person(0, 1), 11);
            Check.due("slow", bank.person(0, 2), 1);
            Check.due("no pass", bank.person(1, 1), NONE);
            Check.due("not slow", bank.person(1, 2), 0);
            bank.pass(1);
            if (tick == 6) {
                bank.exit(0, 0);
            }
        }
        Check.due("gone", bank.person(0, 0), 5);
        Check.due("outside", bank.person(1, 0), 0);
    }

    /** "the reason of the latest refusal (0 if there was none)": stays for good. */
    private static void promise22ReasonOfTheRefusal() {
        TurnstileBank bank = Scenes.gates(0);
        bank.block(3, true);
        bank.enter(0, 3, false);
        Check.due("none yet", bank.person(0, 4), 0);
        bank.pass(1);
        Check.due("refused", bank.person(0, 4), 2);
        bank.block(3, false);
        bank.pass(9);
        Check.due("for good", bank.person(0, 4), 2);
        Check.due("the pass that was refused", bank.person(0, 1), 3);
        Check.due("outside for good", bank.person(0, 0), 0);
        Check.due("not inside", bank.exit(0, 0), NOT_POSSIBLE);
        bank.enter(0, 3, false);
        bank.pass(4);
        Check.due("somebody else by this pass", bank.person(1, 4), 0);
    }

    /** "the ticks waited in the present queue, and those from which the person was moved". */
    private static void promise22TicksWaited() {
        TurnstileBank bank = Scenes.gates(2, 2, 1);
        bank.pass(3);
        bank.enter(0, 0, false);
        Check.due("at once", bank.person(0, 5), 0);
        bank.pass(1);
        Check.due("a tick", bank.person(0, 5), 1);
        bank.pass(4);
        bank.divert(0, 1);
        Check.due("moved", bank.person(0, 5), 5);
        bank.pass(2);
        bank.divert(1, 0);
        Check.due("moved back", bank.person(0, 5), 7);
        bank.pass(200);
        bank.divert(0, 2);
        Check.due("moved again", bank.person(0, 5), 207);
        bank.pass(1);
        Check.due("in a gate", bank.person(0, 5), 0);
        bank.pass(3);
        Check.due("inside", bank.person(0, 5), 0);
        bank.exit(2, 0);
        Check.due("in a queue anew", bank.person(0, 5), 0);
        bank.pass(6);
        Check.due("waits to go out", bank.person(0, 5), 6);
        bank.divert(2, 1);
        Check.due("moved", bank.person(0, 5), 6);
        bank.pass(1);
        Check.due("in a gate", bank.person(0, 5), 0);
        bank.pass(3);
        Check.due("gone", bank.person(0, 5), 0);
        bank.enter(0, -1, false);
        bank.setDirection(0, 1);
        bank.pass(1);
        Check.due("outside", bank.person(1, 5), 0);
    }

    // ---- promise 23

    /** "the people who are inside by it, or in a gate on their way in or out". */
    private static void promise23PeopleInsideByIt() {
        TurnstileBank bank = Scenes.gates(1, 2);
        bank.addPool(1);
        bank.enter(0, 0, false);
        int[] due = {0, 1, 1, 1, 1};
        for (int tick = 0; tick <= 4; tick++) {
            Check.due("behind tick " + tick, bank.pool(0, 2), due[tick]);
            Check.due("the other pool", bank.pool(1, 2), 0);
            bank.pass(1);
        }
        bank.exit(1, 0);
        for (int tick = 0; tick < 4; tick++) {
            Check.due("on the way out", bank.pool(0, 2), 1);
            bank.pass(1);
        }
        Check.due("gone", bank.pool(0, 2), 0);
        bank.enter(0, 0, false);
        bank.block(0, true);
        bank.pass(1);
        Check.due("refused", bank.pool(0, 2), 0);
        bank.enter(0, 1, false);
        bank.pass(1);
        bank.fail(0);
        Check.due("let through by fail()", bank.pool(0, 2), 1);
        bank.exit(1, 2);
        bank.pass(1);
        bank.fail(1);
        Check.due("let out by fail()", bank.pool(0, 2), 0);
    }

    /** "4 for the fares that it paid". */
    private static void promise23Fares() {
        TurnstileBank bank = Scenes.gates(0);
        bank.addPool(40);
        bank.enter(0, 0, false);
        Check.due("not paid yet", bank.pool(0, 4), 0);
        bank.pass(1);
        Check.due("paid as the person goes on", bank.pool(0, 4), 10);
        Check.due("credit", bank.pool(0, 0), 990);
        bank.pass(3);
        bank.exit(0, 0);
        bank.pass(4);
        Check.due("to go out costs nothing", bank.pool(0, 4), 10);
        bank.setFare(0);
        bank.enter(0, 0, false);
        bank.pass(4);
        Check.due("a fare of 0", bank.pool(0, 4), 10);
        bank.setFare(990);
        bank.enter(0, 1, false);
        bank.pass(4);
        Check.due("all of the credit", bank.pool(0, 4), 1000);
        Check.due("nothing left", bank.pool(0, 0), 0);
        Check.due("the other pool", bank.pool(1, 4), 0);
    }

    private static void promise23Passes() {
        TurnstileBank bank = new TurnstileBank();
        bank.addPool(1);
        bank.addPool(40);
        Check.due("none", bank.pool(1, 3), 0);
        for (int pass = 1; pass <= 12; pass++) {
            bank.addPass(1);
            Check.due("passes", bank.pool(1, 3), pass);
        }
        bank.block(0, true);
        Check.due("the blocked ones, too", bank.pool(1, 3), 12);
        Check.due("the other pool", bank.pool(0, 3), 0);
    }

    // ---- promise 24

    /** "in use from when its person goes on into a gate until that person is gone". */
    private static void promise24InUse() {
        TurnstileBank bank = Scenes.gates(1, 2);
        bank.enter(0, -1, false);
        bank.enter(0, 4, false);
        Check.due("waits", bank.passOf(4, 2), NONE);
        bank.pass(1);
        Check.due("waits still", bank.passOf(4, 2), NONE);
        bank.pass(1);
        Check.due("goes on", bank.passOf(4, 2), 1);
        bank.pass(3);
        Check.due("inside", bank.passOf(4, 2), 1);
        bank.block(4, true);
        Check.due("blocked in use", bank.passOf(4, 1), 1);
        Check.due("in use still", bank.passOf(4, 2), 1);
        bank.exit(1, 1);
        bank.pass(3);
        Check.due("in the gate", bank.passOf(4, 2), 1);
        bank.pass(1);
        Check.due("gone", bank.passOf(4, 2), NONE);
        Check.due("blocked still", bank.passOf(4, 1), 1);
        Check.due("the pass of the person stays", bank.person(1, 1), 4);
        Check.due("another pass", bank.passOf(5, 2), NONE);
    }

    // ---- promise 25

    private static void event(int due, int event, int what) {
        Whole.only("event(" + event + ", " + what + ")", Scenes::busy, x -> x.event(event, what),
                due);
    }

    /** "BAD_VALUE if event is negative or what is out of range", ahead of NONE. */
    private static void promise25Bounds() {
        for (int number : new int[] {-1, LEAST}) {
            event(BAD_VALUE, number, 0);
            event(BAD_VALUE, number, 3);
            event(BAD_VALUE, number, 4);
        }
        for (int what : new int[] {-1, 4, LEAST, GREATEST}) {
            event(BAD_VALUE, 0, what);
            event(BAD_VALUE, 19, what);
            event(BAD_VALUE, 20, what);
            event(BAD_VALUE, GREATEST, what);
            Check.due("no events, " + what, new TurnstileBank().event(0, what), BAD_VALUE);
        }
        event(NONE, 20, 0);
        event(NONE, 21, 3);
        event(NONE, GREATEST, 0);
    }

    /** "NONE if there are not so many": none, one, 19, 20, 21 and more. */
    private static void promise25NoneIfThereAreNotSoMany() {
        TurnstileBank bank = new TurnstileBank();
        bank.addGate(0, 1, 1, 1);
        for (int events = 0; events <= 45; events++) {
            int there = Math.min(events, 20);
            if (there > 0) {
                Check.due("the oldest of " + events, bank.event(there - 1, 0), events - there);
                Check.due("the latest of " + events, bank.event(0, 0), events - 1);
            }
            for (int what = 0; what <= 3; what++) {
                Check.due("one more than " + events, bank.event(there, what), NONE);
            }
            if (events % 2 == 0) {
                bank.fail(0);
            } else {
                bank.repair(0);
            }
            bank.pass(1);
        }
    }

    /** "The latest 20 events are kept": all their properties, in their order. */
    private static void promise25OldestIsDropped() {
        TurnstileBank bank = Scenes.gates(1, 1);
        for (int person = 0; person < 30; person++) {
            bank.enter(person % 2, -1, false);
        }
        bank.pass(15);
        for (int event = 0; event < 20; event++) {
            int number = event;
            row("event " + event, what -> bank.event(number, what), (29 - event) / 2,
                    (29 - event) % 2, 29 - event, 1);
        }
        Check.due("the 21st", bank.event(20, 0), NONE);
        bank.fail(1);
        row("the latest", what -> bank.event(0, what), 15, 1, NONE, 5);
        row("the oldest", what -> bank.event(19, what), 5, 1, 11, 1);
        bank.undo();
        row("the oldest, restored", what -> bank.event(19, what), 5, 0, 10, 1);
        row("the latest, restored", what -> bank.event(0, what), 14, 1, 29, 1);
    }

    // ---- promise 26

    /** "UNKNOWN; NOT_POSSIBLE if the person neither waits nor is in a gate". */
    private static void promise26NeitherWaitsNorInAGate() {
        for (int person : new int[] {-1, 6, 40, LEAST, GREATEST}) {
            Check.due("person " + person, Scenes.everywhere().passesIn(person), UNKNOWN);
        }
        int[] due = {NOT_POSSIBLE, NONE, NOT_POSSIBLE, NOT_POSSIBLE, 3, 7};
        for (int person = 0; person < due.length; person++) {
            Check.due("person " + person, Scenes.everywhere().passesIn(person), due[person]);
        }
        Check.due("person 39 of 40", Scenes.full().passesIn(39) != UNKNOWN);
        Check.due("person 40 of 40", Scenes.full().passesIn(40), UNKNOWN);
    }

    /** In each state of the gate, for who is in it and for who is next. */
    private static void promise26InEachState() {
        int[] within = {NONE, 6, 4, 2, 5, NONE};
        for (int state = 0; state <= 5; state++) {
            Check.due("person 0, state " + state, Scenes.gateIn(state).passesIn(0), within[state]);
            Check.due("person 1, state " + state, Scenes.gateIn(state).passesIn(1),
                    within[state] == NONE ? NONE : within[state] + 7);
        }
        TurnstileBank bank = Scenes.gateIn(Scenes.CLOSED);
        bank.setDirection(0, 1);
        Check.due("closed, taken in the next tick", bank.passesIn(0), 7);
        Check.due("the one behind", bank.passesIn(1), 14);
    }

    /** "Returns the ticks, 1 to 500": the least. */
    private static void promise26OneTick() {
        TurnstileBank bank = Scenes.gates(0);
        bank.enter(0, 0, false);
        for (int ticks = 4; ticks >= 1; ticks--) {
            Check.due("in", bank.passesIn(0), ticks);
            Check.due("pass(1)", bank.pass(1), ticks == 1 ? 1 : 0);
        }
        Check.due("inside", bank.passesIn(0), NOT_POSSIBLE);
        bank.exit(0, 0);
        for (int ticks = 4; ticks >= 1; ticks--) {
            Check.due("out", bank.passesIn(0), ticks);
            Check.due("pass(1)", bank.pass(1), ticks == 1 ? 1 : 0);
        }
        Check.due("gone", bank.passesIn(0), NOT_POSSIBLE);
    }

    /** 12 people of 41 ticks each, of whom so many are slow, behind so many refusals. */
    private static TurnstileBank twelve(int slow, int refusals) {
        TurnstileBank bank = Scenes.inOnly(10, 20, 10);
        for (int person = 0; person < refusals; person++) {
            bank.enter(0, -1, false);
        }
        for (int person = 0; person < 12; person++) {
            bank.enter(0, person, person < slow);
        }
        return bank;
    }

    /** "1 to 500; NONE if it would not be so within 500 ticks": 499, 500, 501, 502. */
    private static void promise26FiveHundredTicks() {
        Check.due("492 ticks", twelve(0, 0).passesIn(11), 492);
        Check.due("499 ticks", twelve(3, 1).passesIn(12), 499);
        Check.due("500 ticks", twelve(4, 0).passesIn(11), 500);
        Check.due("500 ticks", twelve(3, 2).passesIn(13), 500);
        Check.due("501 ticks", twelve(4, 1).passesIn(12), NONE);
        Check.due("502 ticks", twelve(5, 0).passesIn(11), NONE);
        Check.due("the one ahead", twelve(5, 0).passesIn(10), 461);
        TurnstileBank bank = twelve(4, 1);
        bank.pass(1);
        Check.due("a tick later", bank.passesIn(12), 500);
        bank.pass(1);
        Check.due("two ticks later", bank.passesIn(12), 499);
        Check.due("all are in then", bank.pass(200) + bank.pass(200) + bank.pass(99), 12);
    }

    /** Nobody comes to it, or who comes is refused: "NONE". */
    private static void promise26NotWithin500() {
        TurnstileBank bank = Scenes.gates(2, 1, 0);
        bank.enter(0, 0, false);
        Check.due("out only, wants in", bank.passesIn(0), NONE);
        bank.enter(1, 1, false);
        bank.pass(4);
        bank.exit(1, 1);
        Check.due("in only, wants out", bank.passesIn(1), NONE);
        bank.enter(2, -1, false);
        Check.due("refused: no pass", bank.passesIn(2), NONE);
        bank.enter(2, 1, false);
        Check.due("refused: the pass is in use", bank.passesIn(3), NONE);
        bank.block(2, true);
        bank.enter(2, 2, false);
        Check.due("refused: blocked", bank.passesIn(4), NONE);
        bank.enter(2, 3, false);
        Check.due("behind them, not refused", bank.passesIn(5), 7);
        bank.setFare(1000);
        Check.due("refused: the credit", bank.passesIn(5), NONE);
        bank.setFare(990);
        Check.due("the credit is enough", bank.passesIn(5), 7);
        bank.fail(2);
        Check.due("out of order", bank.passesIn(5), NONE);
    }

    /** A pinch that is told happens, and the third one lets the person through. */
    private static void promise26PinchTold() {
        TurnstileBank bank = Scenes.gateIn(Scenes.CLOSING);
        Check.due("not told", bank.passesIn(0), 2);
        bank.pinch(0);
        Check.due("told", bank.passesIn(0), 1 + 1 + 2 + 2);
        Check.due("the next one", bank.passesIn(1), 6 + 7);
        Check.due("told still", bank.gate(0, 10), 1);
        Check.due("not pinched", bank.gate(0, 9), 0);
        Check.due("as told", bank.pass(5), 0);
        Check.due("as told", bank.pass(1), 1);
        bank = Scenes.gates(1);
        bank.enter(0, 0, false);
        bank.enter(0, 1, false);
        Check.runText(bank, "t3x0t3x0t3");
        Check.due("pinched twice", bank.passesIn(0), 1);
        Check.due("the next one", bank.passesIn(1), 5);
        bank.pinch(0);
        Check.due("the third one is told", bank.passesIn(0), 1);
        Check.due("then it is out of order", bank.passesIn(1), NONE);
        bank.undo();
        bank.setDirection(0, 1);
        Check.due("not told", bank.passesIn(1), 5);
    }

    /** All gates go on: who goes out elsewhere makes room. */
    private static void promise26AllGatesGoOn() {
        TurnstileBank bank = new TurnstileBank();
        bank.addGate(1, 1, 1, 1);
        bank.addGate(2, 1, 1, 1);
        bank.addPool(1);
        bank.credit(0, 100);
        bank.addPass(0);
        bank.addPass(0);
        bank.enter(0, 0, false);
        bank.pass(4);
        for (int i = 0; i < 4; i++) {
            bank.enter(0, -1, false);
        }
        bank.enter(0, 1, false);
        Check.due("the pool is at its limit", bank.passesIn(5), NONE);
        bank.exit(1, 0);
        Check.due("gate 1 makes room in time", bank.passesIn(5), 8);
        bank.pass(1);
        Check.due("a tick later", bank.passesIn(5), 7);
        bank.fail(1);
        Check.due("room at once", bank.passesIn(5), 7);
    }

    /** Who comes next in the ticks that are told ahead is as in those that go by. */
    private static void promise26WhoHasWaitedLonger() {
        for (int later = -1; later <= 1; later++) {
            TurnstileBank bank = Scenes.gates(0);
            bank.enter(0, 0, false);
            bank.pass(4);
            bank.fail(0);
            if (later < 0) {
                bank.enter(0, 1, false);
                bank.pass(1);
            }
            bank.exit(0, 0);
            bank.pass(Math.max(later, 0));
            if (later >= 0) {
                bank.enter(0, 1, false);
            }
            bank.pass(3);
            bank.repair(0);
            Check.due("who wants out", bank.passesIn(0), later < 0 ? 8 : 4);
            Check.due("who wants in", bank.passesIn(1), later < 0 ? 4 : 8);
        }
    }

    /** The credit and the limit are those of the pool of the pass. */
    private static void promise26EachPoolForItself() {
        for (int rich = 0; rich <= 3; rich++) {
            TurnstileBank bank = new TurnstileBank();
            bank.addGate(1, 1, 1, 1);
            for (int pool = 0; pool < 4; pool++) {
                bank.addPool(1);
                bank.addPass(pool);
            }
            bank.credit(rich, 10);
            for (int pass = 0; pass < 4; pass++) {
                bank.enter(0, pass, false);
            }
            for (int person = 0; person < 4; person++) {
                Check.due("person " + person, bank.passesIn(person),
                        person == rich ? 4 + person : NONE);
            }
        }
    }

    /** What was told ahead once is no part of what is told ahead later. */
    private static void promise26FromThePresentStateOn() {
        TurnstileBank bank = Scenes.inOnly(3, 5, 7);
        bank.addGate(1, 4, 2, 6);
        bank.enter(0, 0, false);
        bank.enter(1, 1, true);
        for (int ticks = 0; ticks < 14; ticks++) {
            Check.due("gate 0", bank.passesIn(0), 16 - ticks);
            Check.due("gate 1", bank.passesIn(1), 15 - ticks);
            Check.due("gate 0 again", bank.passesIn(0), 16 - ticks);
            bank.pass(1);
        }
        bank.setDirection(1, 2);
        bank.pinch(0);
        Check.due("pinched in the 6th tick of closing", bank.passesIn(0), 1 + 6 + 5 + 7);
        Check.due("gate 1", bank.passesIn(1), 1);
        bank.undo();
        Check.due("not pinched", bank.passesIn(0), 2);
    }

    /** It only tells: for each of those who are there. */
    private static void promise26ChangesNothing() {
        for (int person = 0; person < 10; person++) {
            int asked = person;
            Whole.only("passesIn(" + person + ")", Scenes::busy, x -> x.passesIn(asked),
                    Scenes.busy().passesIn(asked));
        }
        Whole.only("passesIn(39)", Scenes::full, x -> x.passesIn(39),
                Scenes.full().passesIn(39));
    }

    // ---- promise 27

    private static void promise27Bounds() {
        for (int what : new int[] {-1, 13, 14, LEAST, GREATEST}) {
            Whole.only("count(" + what + ")", Scenes::busy, x -> x.count(what), BAD_VALUE);
            Check.due("count(" + what + ")", new TurnstileBank().count(what), BAD_VALUE);
        }
    }

    /** Each number of a bank without anything, and of one that is full. */
    private static void promise27NobodyAndFull() {
        row("new", what -> new TurnstileBank().count(what), 0, 0, 0, 0, 0, 0, 0, 0, 0, 10, NONE, 0,
                0);
        row("full", what -> Scenes.full().count(what), 5, 8, 40, 2, 36, 0, 0, 2, 20, 10, 0, 4, 50);
    }

    /** "3 for those inside (waiting to go out included)" and its neighbours. */
    private static void promise27EachPlaceOfPeople() {
        row("everywhere", what -> Scenes.everywhere().count(what), 14, 2, 6, 2, 1, 1, 1, 1, 40, 10,
                0, 3, 0);
        TurnstileBank bank = Scenes.gates(1, 2);
        bank.enter(0, 0, false);
        int[] waiting = {1, 0, 0, 0, 0};
        int[] within = {0, 1, 1, 1, 0};
        for (int tick = 0; tick <= 4; tick++) {
            Check.due("waits to go in", bank.count(4), waiting[tick]);
            Check.due("in gates", bank.count(5), within[tick]);
            Check.due("inside", bank.count(3), tick == 4 ? 1 : 0);
            bank.pass(1);
        }
        bank.exit(1, 0);
        for (int tick = 0; tick <= 4; tick++) {
            Check.due("those who wait to go out do not", bank.count(4), 0);
            Check.due("in gates", bank.count(5), within[tick]);
            Check.due("waiting to go out is inside", bank.count(3), tick == 0 ? 1 : 0);
            Check.due("gone", bank.count(6), tick == 4 ? 1 : 0);
            bank.pass(1);
        }
        promise27SeveralOfEach();
    }

    private static void promise27SeveralOfEach() {
        TurnstileBank bank = Scenes.gates(1, 1, 2);
        for (int person = 0; person < 6; person++) {
            bank.enter(person % 2, person, false);
        }
        row("six wait", what -> bank.count(what), 0, 3, 6, 0, 6, 0, 0, 0, 0);
        bank.pass(1);
        row("two in gates", what -> bank.count(what), 1, 3, 6, 0, 4, 2, 0, 0, 20);
        bank.pass(3);
        bank.exit(2, 0);
        bank.exit(2, 1);
        row("two inside", what -> bank.count(what), 4, 3, 6, 2, 4, 0, 0, 0, 20);
        bank.pass(1);
        row("three in gates", what -> bank.count(what), 5, 3, 6, 1, 2, 3, 0, 0, 40);
        bank.pass(7);
        row("two gone", what -> bank.count(what), 12, 3, 6, 4, 0, 0, 2, 0, 60);
        bank.enter(0, -1, false);
        bank.enter(1, -1, false);
        bank.pass(20);
        row("two refused", what -> bank.count(what), 32, 3, 8, 4, 0, 0, 2, 2, 60);
    }

    /** "the gate with the longest queues together (the lowest of several; NONE without gates)". */
    private static void promise27LowestOfSeveral() {
        Check.due("without gates", new TurnstileBank().count(10), NONE);
        for (int longest = 0; longest < 8; longest++) {
            TurnstileBank bank = Scenes.gates(2, 2, 2, 2, 2, 2, 2, 2);
            Check.due("all are empty", bank.count(10), 0);
            bank.enter(longest, -1, false);
            Check.due("one person", bank.count(10), longest);
            for (int gate = 0; gate < 8; gate++) {
                bank.enter(gate, -1, false);
            }
            Check.due("one more", bank.count(10), longest);
            bank.enter(7, -1, false);
            Check.due("of the same length the lowest", bank.count(10), longest);
            bank.enter(7, -1, false);
            Check.due("the last one is the longest", bank.count(10), 7);
        }
        TurnstileBank bank = Scenes.gates(1, 1, 1);
        bank.enter(0, 0, false);
        bank.enter(0, 1, false);
        bank.pass(8);
        bank.exit(2, 0);
        bank.exit(2, 1);
        bank.enter(1, -1, false);
        bank.enter(1, -1, false);
        Check.due("outer or inner alike", bank.count(10), 1);
        bank.enter(2, -1, false);
        Check.due("both together", bank.count(10), 2);
        int[][] lengths = {{2, 4, 3}, {3, 2, 4}, {4, 3, 2}, {3, 4, 4}, {4, 3, 4}, {1, 5, 5, 6, 6}};
        int[] longest = {1, 2, 0, 1, 0, 3};
        for (int row = 0; row < lengths.length; row++) {
            bank = Scenes.gates(new int[lengths[row].length]);
            for (int gate = 0; gate < lengths[row].length; gate++) {
                for (int person = 0; person < lengths[row][gate]; person++) {
                    bank.enter(gate, -1, false);
                }
            }
            Check.due("the longest of row " + row, bank.count(10), longest[row]);
        }
    }

    /** "11 for the states in the history, 12 for the length of the text": from none to the most. */
    private static void promise27HistoryAndText() {
        TurnstileBank bank = new TurnstileBank();
        for (int i = 0; i <= 55; i++) {
            Check.due("states", bank.count(11), Math.min(i, 4));
            Check.due("text", bank.count(12), Math.min(i, 50));
            bank.type('t');
            bank.pass(1);
        }
        for (int states = 3; states >= 0; states--) {
            bank.undo();
            Check.due("states", bank.count(11), states);
            Check.due("text", bank.count(12), 50);
        }
    }
}
