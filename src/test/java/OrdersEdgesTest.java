import java.util.Arrays;

/**
 * Promises 16 to 19, each sentence that names a boundary case: the empty and the full text, each
 * place of an order, each order that is refused, the empty and the full history.
 */
public final class OrdersEdgesTest {
    private static final int FULL = TurnstileBank.FULL;
    private static final int NONE = TurnstileBank.NONE;
    private static final int UNKNOWN = TurnstileBank.UNKNOWN;

    public static void main(String[] arguments) {
        promise16UpTo50Characters();
        promise16AnyCharacter();
        promise17EmptiesTheText();
        promise18LengthIfItEndsTooEarly();
        promise18DigitOfAGateThatThereIsNot();
        promise18PassesAndPersonsAreNoFaults();
        promise18NumbersOfPassesAndPersons();
        promise18NumbersOfTicks();
        promise18SlowOnlyForIn();
        promise18FirstCharacterNotAllowed();
        promise18EachCharacterAtEachPlace();
        promise18AllShortTexts();
        promise18FaultsChangeNothing();
        promise18TextOf50();
        promise18GateOfEachOrder();
        promise18NumberOfOrders();
        promise18UpToTheFirstError();
        promise18NoneIsCarriedOut();
        promise18IsOneAct();
        promise19EmptyHistory();
        promise19AtMost4States();
        promise19TheTextStays();
        promise19IsNoAct();
        promise19FourActsAreRestored();
        promise19TimesOfAGateAreRestored();
        promise19WaitsAreRestored();
        promise19NumbersAreGivenAnew();
        callsThatAreNoActs();
        Check.end("OrdersEdgesTest");
    }

    private static int runOf(TurnstileBank bank, String text) {
        return Check.runText(bank, text);
    }

    private static void fault(int gates, String text, int fault) {
        TurnstileBank bank = Scenes.gates(new int[gates]);
        Check.due("fault of '" + text + "' with " + gates + " gates", runOf(bank, text),
                -100 - fault);
        Check.due("the text stays", bank.count(12), text.length());
    }

    private static void faultless(int gates, String text, int orders) {
        TurnstileBank bank = Scenes.gates(new int[gates]);
        Check.due("run of '" + text + "' with " + gates + " gates", runOf(bank, text), orders);
        Check.due("the text stays", bank.count(12), text.length());
    }

    // ---- promises 16 and 17

    private static TurnstileBank typed(int length) {
        TurnstileBank bank = Scenes.busy();
        bank.clearText();
        for (int i = 0; i < length; i++) {
            bank.type(i % 2 == 0 ? 't' : '1');
        }
        return bank;
    }

    /** "a text of at most 50 characters, empty at first; FULL if it has 50 characters". */
    private static void promise16UpTo50Characters() {
        Check.due("empty at first", new TurnstileBank().count(12), 0);
        for (int length = 0; length < 50; length++) {
            TurnstileBank bank = typed(length);
            int states = bank.count(11);
            Check.due("type, length " + length, bank.type('t'), length + 1);
            Check.due("count(12)", bank.count(12), length + 1);
            Check.due("it is no act", bank.count(11), states);
        }
        Whole.refused("a 51st", () -> typed(50), x -> x.type('t'), FULL);
        Whole.refused("a 51st", Scenes::full, x -> x.type((char) 0), FULL);
        TurnstileBank bank = typed(50);
        bank.type('x');
        Check.due("the first 50 stay", bank.run(), 25);
        Check.due("a 51st behind run()", bank.type('t'), FULL);
        Check.due("the text is as long", bank.count(12), 50);
        Check.due("state but for the text", Whole.state(() -> typed(50))
                .equals(Whole.state(Scenes::busy)));
    }

    /** "any character": one that no order has is a fault of the text, no error of type(). */
    private static void promise16AnyCharacter() {
        for (int sign : new int[] {0, 1, ' ', '/', ':', 'I', 127, 128, 233, 255, 256, 0x130, 0x660,
            0xFF10, 0xD800, 0xFFFF}) {
            TurnstileBank bank = typed(4);
            Check.due("type((char) " + sign + ")", bank.type((char) sign), 5);
            Check.due("its fault", bank.run(), -104);
        }
    }

    /** "Returns the length that it had": 0, some, 50. */
    private static void promise17EmptiesTheText() {
        for (int length : new int[] {0, 1, 7, 49, 50}) {
            TurnstileBank bank = typed(length);
            int states = bank.count(11);
            Check.due("clearText()", bank.clearText(), length);
            Check.due("count(12)", bank.count(12), 0);
            Check.due("it is no act", bank.count(11), states);
            Check.due("the empty text", bank.run(), -100);
            Check.due("clearText() again", bank.clearText(), 0);
            Check.due("room again", bank.type('t'), 1);
            Check.due("nothing else is in it", bank.run(), -101);
            bank.type('9');
            Check.due("nothing else is in it", bank.run(), 1);
        }
        Whole.refused("an empty text", () -> typed(0), x -> x.clearText(), 0);
        Check.due("state but for the text", Whole.state(Whole.then(Scenes::busy,
                x -> x.clearText())).equals(Whole.state(Scenes::busy)));
    }

    // ---- promise 18: faults

    /** "or its length if it ends too early (the empty text does)". */
    private static void promise18LengthIfItEndsTooEarly() {
        for (String text : new String[] {"", "i", "o", "t", "x", "i0p", "o0", "o0n", "t1i", "t1t",
            "t1x", "t1o", "i0o0", "i0i0p", "i0p1o0n", "t12t", "x0x", "i0si"}) {
            fault(1, text, text.length());
        }
        for (String text : new String[] {"i0", "i0p1", "i0s", "i0p1s", "i0p12", "t1", "t12", "x0",
            "o0n1", "o0n12"}) {
            TurnstileBank bank = Scenes.gates(0);
            Check.due("'" + text + "' does not", runOf(bank, text) >= 0);
        }
    }

    /** "also a digit of a gate that there is not": for i, o and x. */
    private static void promise18DigitOfAGateThatThereIsNot() {
        for (int gates = 0; gates <= 8; gates++) {
            for (int digit = 0; digit <= 9; digit++) {
                if (digit < gates) {
                    faultless(gates, "i" + digit, 1);
                    faultless(gates, "o" + digit + "n0", 0);
                    faultless(gates, "x" + digit, 1);
                } else {
                    fault(gates, "i" + digit, 1);
                    fault(gates, "o" + digit + "n0", 1);
                    fault(gates, "x" + digit, 1);
                    fault(gates, "t1t20i" + digit, 6);
                }
            }
        }
        fault(8, "i01", 2);
        fault(2, "x11", 2);
        fault(2, "o11n0", 2);
    }

    /** "passes and persons that there are not are no faults": they are errors of the orders. */
    private static void promise18PassesAndPersonsAreNoFaults() {
        faultless(1, "i0p11", 1);
        faultless(1, "i0p12", 0);
        faultless(1, "t1i0p99", 1);
        faultless(1, "t1i0p99s", 1);
        faultless(1, "o0n0", 0);
        faultless(1, "t1o0n40", 1);
        faultless(1, "t1o0n99", 1);
        TurnstileBank bank = new TurnstileBank();
        bank.addGate(0, 1, 1, 1);
        Check.due("no pass at all", runOf(bank, "i0p0"), 0);
        Check.due("no person at all", runOf(bank, "o0n0"), 0);
        Check.due("but a fault behind it", runOf(bank, "i0p0s0"), -105);
    }

    /** "1 or 2 digits without zeros in front, but 0 itself": for passes and for persons. */
    private static void promise18NumbersOfPassesAndPersons() {
        for (int number = 0; number <= 99; number++) {
            faultless(1, "i0p" + number, number < 12 ? 1 : 0);
            faultless(1, "t1o0n" + number, 1);
            TurnstileBank bank = Scenes.gates(0);
            bank.enter(0, 2, false);
            Check.due("i0p" + number, runOf(bank, "i0p" + number + "t1"), number < 12 ? 2 : 0);
            Check.due("its pass", bank.person(1, 1), number < 12 ? number : UNKNOWN);
        }
        fault(1, "i0p00", 4);
        fault(1, "i0p01", 4);
        fault(1, "i0p09", 4);
        fault(1, "i0p100", 5);
        fault(1, "i0p999", 5);
        fault(1, "i0p-1", 3);
        fault(1, "i0pp1", 3);
        fault(1, "i0ps", 3);
        fault(1, "i0pt1", 3);
        fault(1, "o0n00", 4);
        fault(1, "o0n01", 4);
        fault(1, "o0n09", 4);
        fault(1, "o0n100", 5);
        fault(1, "o0nn1", 3);
        fault(1, "o0ns", 3);
        fault(1, "o01", 2);
        fault(1, "o0p1", 2);
        fault(1, "i0n1", 2);
        fault(1, "i01", 2);
        secondDigit();
    }

    private static void secondDigit() {
        TurnstileBank bank = Scenes.gates(1);
        for (int person = 0; person < 12; person++) {
            bank.enter(0, person, false);
        }
        bank.pass(48);
        Check.due("person 11, not 1", runOf(bank, "o0n11"), 1);
        Check.due("it waits", bank.queued(0, 1, 0), 11);
        Check.due("person 10", runOf(bank, "o0n10o0n0o0n9"), 3);
        Check.due("person 10 waits", bank.queued(0, 1, 1), 10);
        Check.due("person 0 waits", bank.queued(0, 1, 2), 0);
        Check.due("person 9 waits", bank.queued(0, 1, 3), 9);
    }

    /** "1 or 2 digits from 1 to 99, without zeros in front". */
    private static void promise18NumbersOfTicks() {
        for (int ticks = 1; ticks <= 99; ticks++) {
            TurnstileBank bank = new TurnstileBank();
            Check.due("t" + ticks, runOf(bank, "t" + ticks), 1);
            Check.due("time", bank.count(0), ticks);
        }
        fault(1, "t0", 1);
        fault(1, "t00", 1);
        fault(1, "t01", 1);
        fault(1, "t09", 1);
        fault(1, "t100", 3);
        fault(1, "t1000", 3);
        fault(1, "t200", 3);
        fault(1, "t-1", 1);
        fault(1, "tt1", 1);
    }

    /** "possibly "s" (slow; only for "i")", behind the pass. */
    private static void promise18SlowOnlyForIn() {
        faultless(1, "i0s", 1);
        faultless(1, "i0p1s", 1);
        faultless(1, "i0si0s", 2);
        fault(1, "i0ss", 3);
        fault(1, "i0p1ss", 5);
        fault(1, "i0sp1", 3);
        fault(1, "is0", 1);
        fault(1, "t1s", 2);
        fault(1, "x0s", 2);
        fault(1, "o0s", 2);
        fault(1, "o0n1s", 4);
        fault(1, "s", 0);
        TurnstileBank bank = Scenes.gates(0);
        runOf(bank, "i0i0si0p1i0p1si0");
        int[] slow = {0, 1, 0, 1, 0};
        int[] passes = {NONE, NONE, 1, 1, NONE};
        for (int person = 0; person < slow.length; person++) {
            Check.due("slow is " + person, bank.person(person, 2), slow[person]);
            Check.due("pass of " + person, bank.person(person, 1), passes[person]);
        }
    }

    /** "the index, from 0, of the first character that is not allowed at its place". */
    private static void promise18FirstCharacterNotAllowed() {
        String[] texts = {"a", "0", "n", "p", " ", "T1", "I0", "t1 ", "t1 t1", "t1,t1", "i0 ", "i 0",
            "t1a", "tta", "i0p1x0y", "i0p1x0t5q", "t1t1t1t1 t1", "x", "xx", "x0x0xi", "aa", "ib",
            "i0bb", "o0bb", "o0nbb"};
        int[] faults = {0, 0, 0, 0, 0, 0, 0, 2, 2, 2, 2, 1,
            2, 1, 6, 8, 8, 1, 1, 5, 0, 1,
            2, 2, 3};
        Check.due("rows", texts.length, faults.length);
        for (int row = 0; row < texts.length; row++) {
            fault(1, texts[row], faults[row]);
        }
    }

    /** Each character in place of each one of a text with all the orders. */
    private static void promise18EachCharacterAtEachPlace() {
        String text = "i0p10so1n21t38x1i1s";
        String[] allowed = {"iotx", "01", "psiotx", "0123456789", "0123456789siotx", "siotx",
            "iotx", "01", "n", "0123456789", "0123456789iotx", "iotx", "123456789",
            "0123456789iotx", "iotx", "01", "iotx", "01", "psiotx"};
        Check.due("rows", allowed.length, text.length());
        for (int place = 0; place < text.length(); place++) {
            for (int sign = 0; sign <= 260; sign++) {
                TurnstileBank bank = Scenes.gates(0, 0);
                int answer = runOf(bank, text.substring(0, place) + (char) sign);
                boolean fits = allowed[place].indexOf((char) sign) >= 0;
                Check.due("sign " + sign + " at " + place + " is "
                        + (fits ? "allowed" : "a fault"), (answer == -100 - place) != fits);
            }
        }
    }

    /** All texts of up to 4 characters, compared with the model. */
    private static void promise18AllShortTexts() {
        String signs = "iotxnps0129 ";
        int all = 1;
        for (int length = 0; length <= 4; length++) {
            for (int number = 0; number < all; number++) {
                StringBuilder text = new StringBuilder("i0");
                for (int rest = number, i = 0; i < length; i++, rest /= signs.length()) {
                    text.append(signs.charAt(rest % signs.length()));
                }
                compareWithModel(length < 4 ? text.substring(2) : text.toString());
            }
            all *= signs.length();
        }
    }

    private static void compareWithModel(String text) {
        TurnstileBank bank = new TurnstileBank();
        Model model = new Model();
        bank.addGate(0, 1, 1, 1);
        model.addGate(0, 1, 1, 1);
        bank.addGate(0, 1, 1, 1);
        model.addGate(0, 1, 1, 1);
        for (int i = 0; i < text.length(); i++) {
            bank.type(text.charAt(i));
            model.type(text.charAt(i));
        }
        Check.due("run of '" + text + "'", bank.run(), model.run());
        Check.due("time behind '" + text + "'", bank.count(0), model.count(0));
        Check.due("people behind '" + text + "'", bank.count(2), model.count(2));
    }

    private static TurnstileBank withText(String text) {
        TurnstileBank bank = Scenes.busy();
        bank.clearText();
        Check.type(bank, text);
        return bank;
    }

    /** "-100 minus the fault of the text if it has one (which is an error)". */
    private static void promise18FaultsChangeNothing() {
        Whole.refused("empty", () -> withText(""), x -> x.run(), -100);
        Whole.refused("fault at 0", () -> withText("q"), x -> x.run(), -100);
        Whole.refused("fault behind orders", () -> withText("t9i0x1q"), x -> x.run(), -106);
        Whole.refused("too early", () -> withText("t9i0x1x"), x -> x.run(), -107);
        Whole.refused("all states are there", Whole.then(Scenes::full, x -> x.clearText()),
                x -> x.run(), -100);
    }

    /** The longest text, with a fault at its end, and one that ends too early. */
    private static void promise18TextOf50() {
        String text = "t1".repeat(24);
        faultless(1, text + "t2", 25);
        fault(1, text + "tx", 49);
        fault(1, text + "ot", 49);
        fault(1, text + "12", 49);
        fault(1, text + " 2", 48);
        fault(1, text + "1t", 50);
        fault(1, "t1".repeat(23) + "i0si", 50);
        fault(1, "t1".repeat(23) + "o0n", 49);
    }

    // ---- promise 18: orders

    /** "a gate (a digit)": each gate, for i, o and x. */
    private static void promise18GateOfEachOrder() {
        for (int gate = 0; gate < 8; gate++) {
            TurnstileBank bank = Scenes.gates(1, 1, 1, 1, 1, 1, 1, 1);
            bank.enter(0, 0, false);
            bank.pass(4);
            Check.due("run()", runOf(bank, "i" + gate + "o" + gate + "n0x" + gate), 3);
            for (int other = 0; other < 8; other++) {
                Check.due("who wants in", bank.queued(other, 0, 0), other == gate ? 1 : NONE);
                Check.due("who wants out", bank.queued(other, 1, 0), other == gate ? 0 : NONE);
                Check.due("pinch told", bank.gate(other, 10), other == gate ? 1 : 0);
            }
            Check.due("who wants in is at", bank.person(1, 3), gate);
            Check.due("who wants out is at", bank.person(0, 3), gate);
        }
    }

    /** "Returns the number of orders that were carried out". */
    private static void promise18NumberOfOrders() {
        faultless(1, "t1", 1);
        faultless(1, "t1t1", 2);
        faultless(1, "i0p0t9o0n0t9x0", 5);
        faultless(1, "t1".repeat(25), 25);
        faultless(1, "x0".repeat(25), 25);
        faultless(1, "i0".repeat(25), 25);
        faultless(1, "t99".repeat(16) + "t9", 17);
        TurnstileBank bank = new TurnstileBank();
        Check.due("without gates", runOf(bank, "t99".repeat(16) + "t9"), 17);
        Check.due("time", bank.count(0), 16 * 99 + 9);
    }

    /** "up to the first one whose method would return an error": each one of them. */
    private static void promise18UpToTheFirstError() {
        stopsAt("enter: UNKNOWN, a pass", "i0p12");
        stopsAt("exit: UNKNOWN, a person", "o1n11");
        stopsAt("exit: NOT_POSSIBLE, who waits to go in", "o1n9");
        stopsAt("exit: NOT_POSSIBLE, who waits to go out", "o1n2");
        stopsAt("exit: NOT_POSSIBLE, who is in a gate", "o1n1");
        stopsAt("exit: NOT_POSSIBLE, who was refused", "o1n5");
        stopsAt("pinch: NOT_POSSIBLE", "x0");
        TurnstileBank bank = Scenes.gates(0);
        for (int person = 0; person < 38; person++) {
            bank.enter(0, -1, false);
        }
        Check.due("enter: FULL", runOf(bank, "i0si0p1i0t5"), 2);
        Check.due("40 people", bank.count(2), 40);
        Check.due("no ticks", bank.count(0), 0);
    }

    private static void stopsAt(String name, String wrong) {
        String text = "t1i1" + wrong + "t5i1";
        Check.due(name, withText(text).run(), 2);
        Check.due(name + ": what is behind it is not carried out",
                Whole.state(Whole.then(() -> withText(text), x -> x.run()))
                        .equals(Whole.state(Whole.then(() -> withText("t1i1"), x -> x.run()))));
        Whole.act(name + ", the first order", () -> withText(wrong + "t5"), x -> x.run(), 0);
        Check.due(name + ", the first order, changes nothing",
                Whole.state(Whole.then(() -> withText(wrong + "t5"), x -> x.run()))
                        .equals(Whole.state(Scenes::busy)));
    }

    /** "one that returns NONE is carried out". */
    private static void promise18NoneIsCarriedOut() {
        TurnstileBank bank = Scenes.gates(0);
        Check.due("told", bank.pinch(0), 0);
        Check.due("NONE alone", runOf(bank, "x0"), 1);
        Check.due("NONE first", runOf(bank, "x0t1"), 2);
        Check.due("NONE twice", runOf(bank, "x0x0t1x0"), 4);
        Check.due("time", bank.count(0), 2);
        Whole.act("NONE alone is an act", Scenes::pinchTold, x -> x.run(), 1);
    }

    /** "This is one act, also if the first order returns an error." */
    private static void promise18IsOneAct() {
        Whole.act("many orders", () -> withText("t1i0p3x1t50o1n3i2st9"), x -> x.run(), 7);
        Whole.act("one order", () -> withText("t1"), x -> x.run(), 1);
        Whole.act("the first one is wrong", () -> withText("i0p12t5"), x -> x.run(), 0);
        Whole.act("all states are there", Scenes::full, x -> x.run(), 20);
    }

    // ---- promise 19

    /** "NONE if the history is empty". */
    private static void promise19EmptyHistory() {
        Whole.refused("a new object", TurnstileBank::new, x -> x.undo(), NONE);
        Whole.refused("used up", Whole.undone(Scenes::busy, 3), x -> x.undo(), NONE);
        Whole.refused("used up", Whole.undone(Scenes::full, 4), x -> x.undo(), NONE);
        TurnstileBank bank = new TurnstileBank();
        bank.addPool(0);
        bank.enter(0, 0, false);
        bank.type('t');
        Check.due("errors and type() record nothing", bank.undo(), NONE);
        bank.addPool(1);
        Check.due("one state", bank.undo(), 0);
        Check.due("no state", bank.undo(), NONE);
        Check.due("no pool", bank.pool(0, 0), UNKNOWN);
    }

    /** "at most 4 states; when one more is recorded, the oldest one is dropped". */
    private static void promise19AtMost4States() {
        for (int acts = 0; acts <= 12; acts++) {
            TurnstileBank bank = new TurnstileBank();
            for (int act = 1; act <= acts; act++) {
                bank.setFare(act);
            }
            int states = Math.min(acts, 4);
            Check.due("states behind " + acts, bank.count(11), states);
            for (int undone = 1; undone <= states; undone++) {
                Check.due("undo()", bank.undo(), states - undone);
                Check.due("count(11)", bank.count(11), states - undone);
                Check.due("the latest one", bank.count(9),
                        acts - undone == 0 ? 10 : acts - undone);
            }
            Check.due("the oldest one was dropped", bank.undo(), NONE);
            bank.setFare(77);
            Check.due("recorded anew", bank.count(11), 1);
            bank.undo();
            Check.due("restored", bank.count(9), acts - states == 0 ? 10 : acts - states);
        }
    }

    /** "A state is everything but the text and the history." */
    private static void promise19TheTextStays() {
        TurnstileBank bank = new TurnstileBank();
        bank.type('t');
        bank.setFare(1);
        bank.type('7');
        bank.setFare(2);
        bank.undo();
        Check.due("the text stays", bank.count(12), 2);
        Check.due("as it is", bank.run(), 1);
        Check.due("time", bank.count(0), 7);
        bank.clearText();
        Check.due("run() is undone", bank.undo(), 1);
        Check.due("time", bank.count(0), 0);
        Check.due("the text stays empty", bank.count(12), 0);
        Check.due("the fare", bank.count(9), 1);
        Check.due("undo()", bank.undo(), 0);
        Check.due("the fare", bank.count(9), 10);
        for (int i = 0; i < 50; i++) {
            bank.type('t');
        }
        bank.setFare(5);
        bank.undo();
        Check.due("a full text stays", bank.count(12), 50);
    }

    /** undo() is no act: it takes one state off, and records none. */
    private static void promise19IsNoAct() {
        for (int states = 4; states >= 1; states--) {
            TurnstileBank bank = Whole.undone(Scenes::full, 4 - states).get();
            Check.due("states", bank.count(11), states);
            Check.due("undo()", bank.undo(), states - 1);
            Check.due("states", bank.count(11), states - 1);
        }
        Check.due("an act, undone, leaves nothing", Whole.of(Whole.then(
                Whole.then(Scenes::busy, x -> x.fail(1)), x -> x.undo()))
                .equals(Whole.of(Scenes::busy)));
    }

    /**
     * Gate 0 is out of order, with counters; pool 1 has paid all of its credit; pass 3, which is in
     * use, is blocked; a slow person without a pass waits; the history is full.
     */
    private static TurnstileBank worn() {
        TurnstileBank bank = new TurnstileBank();
        bank.addGate(0, 1, 1, 2);
        bank.addGate(0, 2, 1, 1);
        bank.addPool(40);
        bank.addPool(3);
        bank.credit(0, 50);
        bank.credit(1, 20);
        for (int pass = 0; pass < 5; pass++) {
            bank.addPass(pass < 2 ? 0 : 1);
        }
        bank.enter(0, 2, false);
        bank.enter(0, 3, true);
        bank.enter(0, -1, false);
        bank.enter(0, 0, false);
        runOf(bank, "t3x0t26o0n0t2x0t20");
        bank.block(3, true);
        bank.fail(0);
        bank.enter(0, -1, true);
        bank.enter(0, 1, true);
        bank.exit(0, 3);
        return bank;
    }

    private static TurnstileBank worn(int[] acts, int many) {
        TurnstileBank bank = worn();
        for (int i = 0; i < many; i++) {
            switch (acts[i]) {
                case 0 -> bank.repair(0);
                case 1 -> bank.pass(40);
                case 2 -> runOf(bank, "x0t3i1st9o1n1x1t9");
                case 3 -> bank.credit(1, 30);
                case 4 -> bank.block(3, false);
                case 5 -> bank.setDirection(0, 2);
                case 6 -> bank.divert(0, 1);
                case 7 -> bank.pass(3);
                case 8 -> bank.fail(0);
                case 9 -> bank.enter(0, 4, false);
                default -> bank.pinch(0);
            }
        }
        return bank;
    }

    /** "removes and restores the latest one": four times, each state as it was. */
    private static void promise19FourActsAreRestored() {
        int[][] rows = {{0, 1, 2, 3}, {0, 2, 4, 1}, {0, 3, 9, 1}, {4, 0, 5, 1}, {6, 7, 7, 1},
            {0, 7, 8, 0}, {0, 10, 1, 8}, {3, 9, 0, 1}, {0, 7, 10, 7}, {5, 0, 7, 1}};
        for (int[] acts : rows) {
            for (int times = 0; times <= 4; times++) {
                int undone = times;
                Check.due(Arrays.toString(acts) + ", undone " + undone, Whole.state(
                        Whole.undone(() -> worn(acts, 4), undone))
                        .equals(Whole.state(() -> worn(acts, 4 - undone))));
            }
        }
        TurnstileBank bank = worn();
        Check.due("out of order", bank.gate(0, 1), 5);
        Check.due("in, out, refused, pinches", bank.gate(0, 6) * 1000 + bank.gate(0, 7) * 100
                + bank.gate(0, 8) * 10 + bank.gate(0, 9), 3112);
        Check.due("credit", bank.pool(1, 0), 0);
        Check.due("fares", bank.pool(1, 4), 20);
        Check.due("in use", bank.passOf(3, 2), 1);
        Check.due("blocked", bank.passOf(3, 1), 1);
    }

    /** "A state is everything": the times of a gate, which nothing tells, too. */
    private static void promise19TimesOfAGateAreRestored() {
        TurnstileBank bank = Scenes.inOnly(3, 5, 7);
        bank.addGate(2, 6, 8, 4);
        bank.enter(0, 0, false);
        bank.enter(0, 1, false);
        bank.pass(100);
        for (int i = 0; i < 4; i++) {
            bank.undo();
        }
        Check.due("one gate", bank.count(1), 1);
        bank.addGate(2, 1, 2, 9);
        bank.enter(0, 0, false);
        Check.due("told ahead", bank.passesIn(0), 1 + 3 + 5 + 7);
        int[] ticks = {1, 3, 5, 7};
        int[] left = {3, 5, 7, 0};
        for (int i = 0; i < ticks.length; i++) {
            Check.due("passed", bank.pass(ticks[i]), i == 3 ? 1 : 0);
            Check.due("left", bank.gate(0, 2), left[i]);
            bank.setFare(i);
            bank.undo();
        }
        bank.exit(1, 0);
        Check.due("the gate that was added at last", bank.passesIn(0), 1 + 1 + 2 + 9);
        Check.due("not yet", bank.pass(12), 0);
        Check.due("gone", bank.pass(1), 1);
    }

    /** Behind run() the same person may wait somewhere else, and since another tick. */
    private static void promise19WaitsAreRestored() {
        TurnstileBank bank = Scenes.gates(1);
        bank.pass(10);
        bank.setDirection(0, 2);
        bank.enter(0, 0, false);
        bank.pass(6);
        bank.setDirection(0, 1);
        Check.due("waits to go out", runOf(bank, "t4o0n0t3"), 3);
        Check.due("since then", bank.person(0, 5), 3);
        bank.undo();
        Check.due("waits to go in", bank.person(0, 0), 1);
        Check.due("since it came", bank.person(0, 5), 6);
        Check.due("at gate 0", bank.person(0, 3), 0);
    }

    /** A number that is given anew tells nothing of who had it before undo(). */
    private static void promise19NumbersAreGivenAnew() {
        TurnstileBank bank = Scenes.gates(1, 1);
        Check.due("refused", runOf(bank, "i1st3i0p3t5"), 4);
        bank.undo();
        Check.due("nobody", bank.count(2), 0);
        Check.due("no person 0", bank.person(0, 0), UNKNOWN);
        Check.due("pass 3 is free", bank.passOf(3, 2), NONE);
        Check.due("enter(0, 2, false)", bank.enter(0, 2, false), 0);
        int[] due = {1, 2, 0, 0, 0, 0};
        for (int what = 0; what < due.length; what++) {
            Check.due("person(0, " + what + ")", bank.person(0, what), due[what]);
        }
        Check.due("enter(1, 1, true)", bank.enter(1, 1, true), 1);
        int[] other = {1, 1, 1, 1, 0, 0};
        for (int what = 0; what < other.length; what++) {
            Check.due("person(1, " + what + ")", bank.person(1, what), other[what]);
        }
        afterOneWhoWantedOut();
        poolsAndPassesAreGivenAnew();
    }

    private static void afterOneWhoWantedOut() {
        for (String text : new String[] {"i1p3st6o1n0", "i1p3st6o1n0t1", "i1p3st6o1n0t9"}) {
            TurnstileBank bank = Scenes.gates(0, 0);
            Check.due("run()", runOf(bank, text) >= 3);
            bank.undo();
            Check.due("nobody", bank.count(2), 0);
            Check.due("enter(0, 2, false)", bank.enter(0, 2, false), 0);
            int[] due = {1, 2, 0, 0, 0, 0};
            for (int what = 0; what < due.length; what++) {
                Check.due("person(0, " + what + ")", bank.person(0, what), due[what]);
            }
            Check.due("inside, not gone", bank.pass(4), 1);
            Check.due("inside, not gone", bank.person(0, 0), 3);
            Check.due("event", bank.event(0, 3), 2);
            Check.due("gate 1 was not used", bank.gate(1, 6) + bank.gate(1, 7), 0);
        }
    }

    private static void poolsAndPassesAreGivenAnew() {
        TurnstileBank bank = new TurnstileBank();
        bank.addPool(3);
        Check.due("addPool(1)", bank.addPool(1), 1);
        bank.undo();
        Check.due("addPool(2)", bank.addPool(2), 1);
        int[] pool = {0, 2, 0, 0, 0};
        for (int what = 0; what < pool.length; what++) {
            Check.due("pool(1, " + what + ")", bank.pool(1, what), pool[what]);
        }
        for (int from = 0; from <= 1; from++) {
            int before = bank.pool(1 - from, 3);
            Check.due("addPass", bank.addPass(from), from);
            bank.undo();
            Check.due("addPass to another pool", bank.addPass(1 - from), from);
            Check.due("its pool", bank.passOf(from, 0), 1 - from);
            Check.due("its pool's passes", bank.pool(1 - from, 3), before + 1);
        }
    }

    /** What is no act changes nothing, and records nothing. */
    private static void callsThatAreNoActs() {
        Whole.only("gate", Scenes::busy, x -> x.gate(0, 1), 5);
        Whole.only("queued", Scenes::busy, x -> x.queued(0, 0, 0), 8);
        Whole.only("person", Scenes::busy, x -> x.person(7, 2), 1);
        Whole.only("pool", Scenes::busy, x -> x.pool(1, 1), 2);
        Whole.only("passOf", Scenes::busy, x -> x.passOf(9, 1), 1);
        Whole.only("event", Scenes::busy, x -> x.event(19, 4), TurnstileBank.BAD_VALUE);
        Whole.only("passesIn", Scenes::busy, x -> x.passesIn(8), NONE);
        Whole.only("count", Scenes::busy, x -> x.count(11), 3);
    }
}
