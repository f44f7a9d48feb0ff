/**
 * Promises 1 to 8, each sentence that names a boundary case: the least and the most and one beyond
 * them, the last free place, what is refused and that it changes nothing, what is recorded.
 */
public final class GatesPoolsPassesEdgesTest {
    private static final int UNKNOWN = TurnstileBank.UNKNOWN;
    private static final int BAD_VALUE = TurnstileBank.BAD_VALUE;
    private static final int FULL = TurnstileBank.FULL;
    private static final int NOT_POSSIBLE = TurnstileBank.NOT_POSSIBLE;
    private static final int NONE = TurnstileBank.NONE;
    private static final int LEAST = Integer.MIN_VALUE;
    private static final int GREATEST = Integer.MAX_VALUE;

    public static void main(String[] arguments) {
        promise1WithoutGates();
        promise1WithoutAnything();
        promise2Ranges();
        promise2AddsAGateClosed();
        promise2FullIfThereAre8();
        promise2IsAnAct();
        promise3Ranges();
        promise3PreviousOne();
        promise3WhoStandsInAQueueStaysThere();
        promise4Ranges();
        promise4FullIfThereAre4();
        promise4LimitOfPeople();
        promise5Ranges();
        promise5NotAboveTheMost();
        promise5PaidCreditMakesRoom();
        promise6Unknown();
        promise6FullIfThereAre12();
        promise7UnknownAndNone();
        promise7NumberOfBlockedPasses();
        promise8Ranges();
        promise8PreviousOne();
        promise8FareOfZeroAndMost();
        Check.end("GatesPoolsPassesEdgesTest");
    }

    // ---- promise 1

    /** "Creates a bank without gates." */
    private static void promise1WithoutGates() {
        Check.due("count(1)", new TurnstileBank().count(1), 0);
        for (int gate = -1; gate <= 8; gate++) {
            Check.due("gate(" + gate + ", 0)", new TurnstileBank().gate(gate, 0), UNKNOWN);
            Check.due("queued(" + gate + ")", new TurnstileBank().queued(gate, 0, 0), UNKNOWN);
        }
        Check.due("NONE without gates", new TurnstileBank().count(10), NONE);
        Check.due("the first gate", new TurnstileBank().addGate(0, 1, 1, 1), 0);
        Check.due("ticks without gates", new TurnstileBank().pass(200), 0);
    }

    /** Nothing is there at first, so that nothing can be done with it. */
    private static void promise1WithoutAnything() {
        Whole.refused("setDirection", TurnstileBank::new, x -> x.setDirection(0, 0), UNKNOWN);
        Whole.refused("credit", TurnstileBank::new, x -> x.credit(0, 1), UNKNOWN);
        Whole.refused("addPass", TurnstileBank::new, x -> x.addPass(0), UNKNOWN);
        Whole.refused("block", TurnstileBank::new, x -> x.block(0, true), UNKNOWN);
        Whole.refused("enter", TurnstileBank::new, x -> x.enter(0, -1, false), UNKNOWN);
        Whole.refused("exit", TurnstileBank::new, x -> x.exit(0, 0), UNKNOWN);
        Whole.refused("divert", TurnstileBank::new, x -> x.divert(0, 1), UNKNOWN);
        Whole.refused("pinch", TurnstileBank::new, x -> x.pinch(0), UNKNOWN);
        Whole.refused("fail", TurnstileBank::new, x -> x.fail(0), UNKNOWN);
        Whole.refused("repair", TurnstileBank::new, x -> x.repair(0), UNKNOWN);
        Whole.refused("clearText", TurnstileBank::new, x -> x.clearText(), 0);
        Whole.refused("run", TurnstileBank::new, x -> x.run(), -100);
        Whole.refused("undo", TurnstileBank::new, x -> x.undo(), NONE);
        Whole.only("person", TurnstileBank::new, x -> x.person(0, 0), UNKNOWN);
        Whole.only("pool", TurnstileBank::new, x -> x.pool(0, 0), UNKNOWN);
        Whole.only("passOf", TurnstileBank::new, x -> x.passOf(0, 0), UNKNOWN);
        Whole.only("event", TurnstileBank::new, x -> x.event(0, 0), NONE);
        Whole.only("passesIn", TurnstileBank::new, x -> x.passesIn(0), UNKNOWN);
        int[] counts = {0, 0, 0, 0, 0, 0, 0, 0, 0, 10, NONE, 0, 0};
        for (int what = 0; what < counts.length; what++) {
            Check.due("count(" + what + ")", new TurnstileBank().count(what), counts[what]);
        }
    }

    // ---- promise 2

    /** "direction: 0 to 2; opening: 1 to 10; hold: 1 to 20; closing: 1 to 10". */
    private static void promise2Ranges() {
        int[][] ranges = {{0, 2}, {1, 10}, {1, 20}, {1, 10}};
        for (int argument = 0; argument < 4; argument++) {
            int least = ranges[argument][0];
            int most = ranges[argument][1];
            for (int value : new int[] {least - 1, most + 1, -1, LEAST, GREATEST}) {
                int[] all = {1, 2, 3, 4};
                all[argument] = value;
                Whole.refused("addGate, argument " + argument + " is " + value, Scenes::busy,
                        x -> x.addGate(all[0], all[1], all[2], all[3]), BAD_VALUE);
            }
            for (int value = least; value <= most; value++) {
                int[] all = {1, 2, 3, 4};
                all[argument] = value;
                Check.due("addGate, argument " + argument + " is " + value,
                        new TurnstileBank().addGate(all[0], all[1], all[2], all[3]), 0);
            }
        }
        Check.due("all are the least", new TurnstileBank().addGate(0, 1, 1, 1), 0);
        Check.due("all are the most", new TurnstileBank().addGate(2, 10, 20, 10), 0);
    }

    /** "Adds a gate, closed." */
    private static void promise2AddsAGateClosed() {
        TurnstileBank bank = Scenes.busy();
        Check.due("its number", bank.addGate(2, 10, 20, 10), 3);
        int[] due = {2, 0, 0, NONE, 0, 0, 0, 0, 0, 0, 0};
        for (int what = 0; what < due.length; what++) {
            Check.due("gate(3, " + what + ")", bank.gate(3, what), due[what]);
        }
        Check.due("outer queue", bank.queued(3, 0, 0), NONE);
        Check.due("inner queue", bank.queued(3, 1, 0), NONE);
        Check.due("gates", bank.count(1), 4);
    }

    /** "FULL if there are 8", behind BAD_VALUE. */
    private static void promise2FullIfThereAre8() {
        TurnstileBank bank = new TurnstileBank();
        for (int gate = 0; gate < 8; gate++) {
            Check.due("addGate", bank.addGate(gate % 3, 1 + gate, 1, 1), gate);
        }
        Check.due("the last free place", bank.count(1), 8);
        Check.due("its direction", bank.gate(7, 0), 1);
        Check.due("no free place", bank.addGate(0, 1, 1, 1), FULL);
        Whole.refused("no free place", Scenes::full, x -> x.addGate(0, 1, 1, 1), FULL);
        Whole.refused("no free place, the most", Scenes::full, x -> x.addGate(2, 10, 20, 10), FULL);
        Whole.refused("direction 3", Scenes::full, x -> x.addGate(3, 1, 1, 1), BAD_VALUE);
        Whole.refused("opening 0", Scenes::full, x -> x.addGate(0, 0, 1, 1), BAD_VALUE);
        Whole.refused("hold 21", Scenes::full, x -> x.addGate(0, 1, 21, 1), BAD_VALUE);
        Whole.refused("closing 11", Scenes::full, x -> x.addGate(0, 1, 1, 11), BAD_VALUE);
        bank.undo();
        Check.due("a place is free again", bank.addGate(0, 1, 1, 1), 7);
    }

    private static void promise2IsAnAct() {
        Whole.act("addGate, first", TurnstileBank::new, x -> x.addGate(0, 1, 1, 1), 0);
        Whole.act("addGate", Scenes::busy, x -> x.addGate(1, 2, 3, 4), 3);
    }

    // ---- promise 3

    /** "a gate; 0 to 2": UNKNOWN comes ahead of BAD_VALUE. */
    private static void promise3Ranges() {
        for (int gate : new int[] {-1, 3, 8, LEAST, GREATEST}) {
            Whole.refused("gate " + gate, Scenes::busy, x -> x.setDirection(gate, 0), UNKNOWN);
            Whole.refused("gate " + gate, Scenes::busy, x -> x.setDirection(gate, 3), UNKNOWN);
        }
        for (int direction : new int[] {-1, 3, LEAST, GREATEST}) {
            Whole.refused("direction " + direction, Scenes::busy,
                    x -> x.setDirection(2, direction), BAD_VALUE);
        }
        Whole.refused("gate 8 of 8", Scenes::full, x -> x.setDirection(8, 0), UNKNOWN);
        Whole.act("gate 7 of 8", Scenes::full, x -> x.setDirection(7, 2), 1);
    }

    /** "Returns the previous one". */
    private static void promise3PreviousOne() {
        for (int previous = 0; previous <= 2; previous++) {
            for (int direction = 0; direction <= 2; direction++) {
                TurnstileBank bank = Scenes.gates(previous, 1);
                Check.due("setDirection(0, " + direction + ")", bank.setDirection(0, direction),
                        previous);
                Check.due("gate(0, 0)", bank.gate(0, 0), direction);
                Check.due("the other gate", bank.gate(1, 0), 1);
            }
        }
        Whole.act("another one", Scenes::busy, x -> x.setDirection(2, 0), 2);
        Whole.act("the same one is an act, too", Scenes::busy, x -> x.setDirection(2, 2), 2);
        Whole.act("out of order", Scenes::busy, x -> x.setDirection(0, 2), 0);
    }

    /** "who stands in a queue stays there". */
    private static void promise3WhoStandsInAQueueStaysThere() {
        for (int direction = 0; direction <= 2; direction++) {
            TurnstileBank bank = Scenes.gates(0);
            bank.enter(0, 0, false);
            bank.pass(4);
            bank.exit(0, 0);
            bank.enter(0, 1, false);
            bank.enter(0, 2, false);
            bank.setDirection(0, direction);
            Check.due("outer queue", bank.gate(0, 4), 2);
            Check.due("its first", bank.queued(0, 0, 0), 1);
            Check.due("its second", bank.queued(0, 0, 1), 2);
            Check.due("inner queue", bank.gate(0, 5), 1);
            Check.due("its first", bank.queued(0, 1, 0), 0);
            Check.due("it waits still", bank.person(0, 0), 4);
            Check.due("it waits still", bank.person(1, 0), 1);
        }
    }

    // ---- promise 4

    /** "limit: 1 to 40". */
    private static void promise4Ranges() {
        for (int limit : new int[] {0, 41, -1, LEAST, GREATEST}) {
            Whole.refused("limit " + limit, Scenes::busy, x -> x.addPool(limit), BAD_VALUE);
        }
        for (int limit = 1; limit <= 40; limit++) {
            TurnstileBank bank = new TurnstileBank();
            Check.due("limit " + limit, bank.addPool(limit), 0);
            Check.due("pool(0, 1)", bank.pool(0, 1), limit);
        }
    }

    /** "FULL if there are 4", behind BAD_VALUE. */
    private static void promise4FullIfThereAre4() {
        TurnstileBank bank = new TurnstileBank();
        for (int pool = 0; pool < 4; pool++) {
            Check.due("addPool", bank.addPool(pool + 1), pool);
        }
        Check.due("the last free place", bank.pool(3, 1), 4);
        Check.due("no free place", bank.addPool(5), FULL);
        Check.due("no pool 4", bank.pool(4, 1), UNKNOWN);
        Whole.refused("no free place", Scenes::full, x -> x.addPool(40), FULL);
        Whole.refused("limit 0", Scenes::full, x -> x.addPool(0), BAD_VALUE);
        Whole.refused("limit 41", Scenes::full, x -> x.addPool(41), BAD_VALUE);
        Whole.act("addPool, first", TurnstileBank::new, x -> x.addPool(1), 0);
        Whole.act("addPool", Scenes::busy, x -> x.addPool(40), 2);
    }

    /** "a limit of people who can be inside by it at the same time": the limit itself is taken. */
    private static void promise4LimitOfPeople() {
        for (int limit : new int[] {1, 2, 11, 12, 40}) {
            TurnstileBank bank = new TurnstileBank();
            bank.addGate(1, 1, 1, 1);
            bank.addPool(limit);
            bank.credit(0, 1000);
            for (int pass = 0; pass < 12; pass++) {
                bank.addPass(0);
                bank.enter(0, pass, false);
            }
            int inside = Math.min(limit, 12);
            Check.due("inside, limit " + limit, bank.pass(100), inside);
            Check.due("refused, limit " + limit, bank.count(7), 12 - inside);
            Check.due("pool(0, 2)", bank.pool(0, 2), inside);
            Check.due("the last one", bank.person(11, 4), limit < 12 ? 4 : 0);
            Check.due("the last one inside", bank.person(inside - 1, 4), 0);
        }
    }

    // ---- promise 5

    /** "amount: 1 to 100000", behind UNKNOWN. */
    private static void promise5Ranges() {
        for (int pool : new int[] {-1, 2, 4, LEAST, GREATEST}) {
            Whole.refused("pool " + pool, Scenes::busy, x -> x.credit(pool, 1), UNKNOWN);
            Whole.refused("pool " + pool, Scenes::busy, x -> x.credit(pool, 0), UNKNOWN);
        }
        for (int amount : new int[] {0, 100001, -1, LEAST, GREATEST}) {
            Whole.refused("amount " + amount, Scenes::busy, x -> x.credit(0, amount), BAD_VALUE);
        }
        int credit = Scenes.busy().pool(0, 0);
        Whole.act("the least", Scenes::busy, x -> x.credit(0, 1), credit + 1);
        Whole.act("the most", Scenes::busy, x -> x.credit(0, 100000), credit + 100000);
    }

    private static TurnstileBank credited(int credit) {
        TurnstileBank bank = new TurnstileBank();
        bank.addPool(1);
        bank.addPool(1);
        for (int left = credit; left > 0; left -= Math.min(left, 100000)) {
            bank.credit(0, Math.min(left, 100000));
        }
        return bank;
    }

    /** "NOT_POSSIBLE if it would be above 1000000", behind BAD_VALUE. */
    private static void promise5NotAboveTheMost() {
        Check.due("at first 0", credited(0).pool(0, 0), 0);
        Whole.act("just the most", () -> credited(900000), x -> x.credit(0, 100000), 1000000);
        Whole.act("just the most", () -> credited(999999), x -> x.credit(0, 1), 1000000);
        Whole.refused("1 above", () -> credited(900001), x -> x.credit(0, 100000), NOT_POSSIBLE);
        Whole.refused("1 above", () -> credited(999999), x -> x.credit(0, 2), NOT_POSSIBLE);
        Whole.refused("1 above", () -> credited(1000000), x -> x.credit(0, 1), NOT_POSSIBLE);
        Whole.refused("much above", () -> credited(1000000), x -> x.credit(0, 100000),
                NOT_POSSIBLE);
        Whole.refused("amount 0", () -> credited(1000000), x -> x.credit(0, 0), BAD_VALUE);
        Whole.refused("amount 100001", () -> credited(1000000), x -> x.credit(0, 100001),
                BAD_VALUE);
        Whole.act("the other pool", () -> credited(1000000), x -> x.credit(1, 1), 1);
        for (int pool = 0; pool < 2; pool++) {
            int of = pool;
            int room = 1000000 - Scenes.busy().pool(of, 0);
            Whole.refused("much goes on, pool " + of, () -> nearlyAll(of, room),
                    x -> x.credit(of, 8), NOT_POSSIBLE);
            Whole.act("much goes on, pool " + of, () -> nearlyAll(of, room),
                    x -> x.credit(of, 7), 1000000);
        }
    }

    /** Much goes on, and a pool has 7 less than the most. */
    private static TurnstileBank nearlyAll(int pool, int room) {
        TurnstileBank bank = Scenes.busy();
        for (int left = room - 7; left > 0; left -= Math.min(left, 100000)) {
            Check.due("credit", bank.credit(pool, Math.min(left, 100000)) > 0);
        }
        return bank;
    }

    /** The credit is what is left of it: fares that were paid are no part of it. */
    private static void promise5PaidCreditMakesRoom() {
        TurnstileBank bank = credited(1000000);
        bank.addGate(1, 1, 1, 1);
        bank.addPass(0);
        bank.enter(0, 0, false);
        bank.pass(1);
        Check.due("paid", bank.pool(0, 0), 999990);
        Check.due("too much", bank.credit(0, 11), NOT_POSSIBLE);
        Check.due("just the most", bank.credit(0, 10), 1000000);
        Check.due("fares", bank.pool(0, 4), 10);
    }

    // ---- promise 6

    /** "a pool", UNKNOWN comes ahead of FULL. */
    private static void promise6Unknown() {
        for (int pool : new int[] {-1, 2, 4, LEAST, GREATEST}) {
            Whole.refused("addPass(" + pool + ")", Scenes::busy, x -> x.addPass(pool), UNKNOWN);
        }
        for (int pool : new int[] {-1, 4}) {
            Whole.refused("addPass(" + pool + ")", Scenes::full, x -> x.addPass(pool), UNKNOWN);
        }
    }

    /** "FULL if there are 12", in all the pools together. */
    private static void promise6FullIfThereAre12() {
        TurnstileBank bank = new TurnstileBank();
        bank.addPool(1);
        bank.addPool(2);
        for (int pass = 0; pass < 12; pass++) {
            Check.due("addPass", bank.addPass(pass < 5 ? 1 : 0), pass);
            Check.due("its pool", bank.passOf(pass, 0), pass < 5 ? 1 : 0);
            Check.due("valid", bank.passOf(pass, 1), 0);
            Check.due("not in use", bank.passOf(pass, 2), NONE);
        }
        Check.due("no free place", bank.addPass(0), FULL);
        Check.due("no pass 12", bank.passOf(12, 0), UNKNOWN);
        Check.due("passes of pool 0", bank.pool(0, 3), 7);
        Check.due("passes of pool 1", bank.pool(1, 3), 5);
        Whole.refused("no free place", Scenes::full, x -> x.addPass(0), FULL);
        Whole.refused("no free place", Scenes::full, x -> x.addPass(3), FULL);
        Whole.refused("no free place", Scenes::busy, x -> x.addPass(1), FULL);
        Whole.act("addPass, first", () -> credited(0), x -> x.addPass(1), 0);
        Whole.act("the last free place", GatesPoolsPassesEdgesTest::elevenPasses,
                x -> x.addPass(0), 11);
    }

    private static TurnstileBank elevenPasses() {
        TurnstileBank bank = Scenes.gates(0);
        bank.undo();
        return bank;
    }

    // ---- promise 7

    /** "UNKNOWN; NONE if it is so already". */
    private static void promise7UnknownAndNone() {
        for (int pass : new int[] {-1, 12, LEAST, GREATEST}) {
            Whole.refused("block(" + pass + ")", Scenes::busy, x -> x.block(pass, true), UNKNOWN);
            Whole.refused("block(" + pass + ")", Scenes::busy, x -> x.block(pass, false), UNKNOWN);
        }
        Whole.refused("pass 11 of 11", GatesPoolsPassesEdgesTest::elevenPasses,
                x -> x.block(11, true), UNKNOWN);
        Whole.refused("valid already", Scenes::busy, x -> x.block(8, false), NONE);
        Whole.refused("blocked already", Scenes::busy, x -> x.block(9, true), NONE);
        Whole.act("blocked", Scenes::busy, x -> x.block(8, true), 2);
        Whole.act("made valid", Scenes::busy, x -> x.block(9, false), 0);
        Whole.act("blocked while it is in use", Scenes::busy, x -> x.block(1, true), 2);
    }

    /** "Returns the number of blocked passes then": 0, and all of them. */
    private static void promise7NumberOfBlockedPasses() {
        TurnstileBank bank = Scenes.gates(0);
        for (int pass = 0; pass < 12; pass++) {
            Check.due("block(" + pass + ", true)", bank.block(pass, true), pass + 1);
            Check.due("again", bank.block(pass, true), NONE);
        }
        for (int pass = 0; pass < 12; pass++) {
            Check.due("block(" + pass + ", false)", bank.block(pass, false), 11 - pass);
            Check.due("passOf(" + pass + ", 1)", bank.passOf(pass, 1), 0);
            Check.due("passOf(11, 1)", bank.passOf(11, 1), pass < 11 ? 1 : 0);
        }
        bank = credited(1);
        bank.addPass(1);
        Check.due("the one that there is", bank.block(0, true), 1);
        Check.due("none of the one that there is", bank.block(0, false), 0);
        bank = Scenes.full();
        for (int pass = 0; pass < 12; pass++) {
            Check.due("of all the pools", bank.block(pass, true), pass + 1);
        }
        Check.due("of all the pools", bank.block(5, false), 11);
    }

    // ---- promise 8

    /** "fare: 0 to 1000". */
    private static void promise8Ranges() {
        for (int fare : new int[] {-1, 1001, LEAST, GREATEST}) {
            Whole.refused("setFare(" + fare + ")", Scenes::busy, x -> x.setFare(fare), BAD_VALUE);
        }
        for (int fare : new int[] {0, 1, 10, 999, 1000}) {
            Whole.act("setFare(" + fare + ")", Scenes::closing, x -> x.setFare(fare), 10);
        }
    }

    /** "Returns the previous one": at first 10. */
    private static void promise8PreviousOne() {
        TurnstileBank bank = new TurnstileBank();
        Check.due("at first", bank.count(9), 10);
        Check.due("setFare(0)", bank.setFare(0), 10);
        Check.due("count(9)", bank.count(9), 0);
        Check.due("setFare(1000)", bank.setFare(1000), 0);
        Check.due("setFare(1000) is an act, too", bank.setFare(1000), 1000);
        Check.due("states", bank.count(11), 3);
        Check.due("setFare(1001)", bank.setFare(1001), BAD_VALUE);
        Check.due("count(9)", bank.count(9), 1000);
    }

    /** "To go in costs a fare (0 to 1000)": refused if "the credit is less than the fare". */
    private static void promise8FareOfZeroAndMost() {
        int[][] rows = {{0, 0, 0}, {0, 1, 5}, {10, 10, 0}, {9, 10, 5}, {11, 10, 0},
            {1000, 1000, 0}, {999, 1000, 5}, {1, 1, 0}};
        for (int[] row : rows) {
            TurnstileBank bank = credited(row[0]);
            bank.addGate(1, 1, 1, 1);
            bank.addPass(0);
            bank.setFare(row[1]);
            bank.enter(0, 0, false);
            bank.pass(1);
            String of = " with the credit " + row[0] + " and the fare " + row[1];
            Check.due("refused" + of, bank.person(0, 4), row[2]);
            int paid = row[2] == 0 ? row[1] : 0;
            Check.due("credit" + of, bank.pool(0, 0), row[0] - paid);
            Check.due("fares" + of, bank.pool(0, 4), paid);
            Check.due("all fares" + of, bank.count(8), paid);
            Check.due("event" + of, bank.event(0, 3), row[2] == 0 ? 0 : 1);
        }
    }
}
