import java.util.function.Supplier;

/** Promises 16 to 19: the text, its orders, undo. */
public final class OrdersTest {
    private static final int FULL = TurnstileBank.FULL;
    private static final int NONE = TurnstileBank.NONE;

    public static void main(String[] arguments) {
        promise16Type();
        promise17ClearText();
        promise18Faults();
        promise18FaultsWithoutGates();
        promise18RunsOrders();
        promise18StopsAtErrors();
        promise18IsOneAct();
        promise18LongText();
        promise19Undo();
        promise19RestoresAll();
        promise19RestoresEachAct();
        promise19NumbersAreGivenAnew();
        Check.end("OrdersTest");
    }

    private static void promise16Type() {
        TurnstileBank bank = Check.oneGate();
        int recorded = Check.statesWithRoom(bank);
        char[] any = {'a', ' ', (char) 0, (char) 233, (char) 65535};
        for (int i = 0; i < 50; i++) {
            Check.due("type " + i, bank.type(any[i % any.length]), i + 1);
        }
        Check.due("a 51st", bank.type('a'), FULL);
        Check.due("its length", bank.count(12), 50);
        Check.due("typing is no act", bank.count(11), recorded);
        Check.due("its fault", bank.run(), -100);
        bank.clearText();
        Check.due("room again", bank.type('t'), 1);
    }

    private static void promise17ClearText() {
        TurnstileBank bank = Check.oneGate();
        int recorded = Check.statesWithRoom(bank);
        Check.due("empty", bank.clearText(), 0);
        Check.type(bank, "t1t");
        Check.due("clearText()", bank.clearText(), 3);
        Check.due("cleared", bank.count(12), 0);
        Check.due("clearText() again", bank.clearText(), 0);
        Check.due("clearing is no act", bank.count(11), recorded);
        Check.type(bank, "t2");
        Check.due("nothing of it is left", bank.run(), 1);
        Check.due("time", bank.count(0), 2);
    }

    /** A bank with gates 0 and 1; the latest act has added gate 1. */
    private static TurnstileBank twoGates() {
        TurnstileBank bank = Check.oneGate();
        bank.addGate(0, 1, 1, 1);
        return bank;
    }

    private static void promise18Faults() {
        String[] texts = {"", "i", "i2", "ia", "ip", "i9", "i0p", "i0pa", "i0p01", "i0p123", "i0sp1",
            "i0ss", "i0 ", "o", "o2", "o0", "o0p", "o0n", "o0na", "o0n00", "o0n123", "o0n1s", "t",
            "t0", "ta", "t100", "t01", "t1s", "x", "x2", "x0s", "x00", "a", "I0", " i0", "1", "s",
            "t5t", "t5i0p1x", "i0p1sp", "i1p12sx1o1n39t99q", "i0p1n1", "i0n1", "x0p1", "t1p1",
            "i\u0130", "t\uff11", "t1\u0000", "t:", "t/", "t1:", "t1/", "i:", "i/", "i0p:", "o0n/"};
        int[] faults = {0, 1, 1, 1, 1, 1, 3, 3, 4, 5, 3,
            3, 2, 1, 1, 2, 2, 3, 3, 4, 5, 4, 1,
            1, 1, 3, 1, 2, 1, 1, 2, 2, 0, 0, 0, 0, 0,
            3, 7, 5, 16, 4, 2, 2, 2,
            1, 1, 2, 1, 1, 2, 2, 1, 1, 3, 3};
        Check.due("rows", texts.length, faults.length);
        for (int row = 0; row < texts.length; row++) {
            TurnstileBank bank = twoGates();
            Check.due("fault of '" + texts[row] + "'", Check.runText(bank, texts[row]),
                    -100 - faults[row]);
            Check.due("the text stays", bank.count(12), texts[row].length());
            Check.due("nothing is recorded", bank.undo(), 3);
            Check.due("the last act is undone, no other", bank.count(1), 1);
        }
    }

    private static void promise18FaultsWithoutGates() {
        TurnstileBank bank = new TurnstileBank();
        Check.due("no gate 0", Check.runText(bank, "t1i0"), -103);
        Check.due("no gate is needed", Check.runText(bank, "t1t99"), 2);
        for (int i = 0; i < 8; i++) {
            bank.addGate(0, 1, 1, 1);
        }
        Check.due("gate 7", Check.runText(bank, "i7"), 1);
        Check.due("gate 8", Check.runText(bank, "i8"), -101);
        Check.due("gate 9", Check.runText(bank, "x9"), -101);
    }

    private static void promise18RunsOrders() {
        TurnstileBank bank = Check.oneGate();
        bank.addGate(0, 1, 1, 1);
        Check.due("run()", Check.runText(bank, "i0p0si0p11i1i1si0p1t1"), 6);
        Check.due("the text stays", bank.count(12), 21);
        int[] passes = {0, 11, NONE, NONE, 1};
        int[] slow = {1, 0, 0, 1, 0};
        int[] gates = {0, 0, NONE, 1, 0};
        for (int person = 0; person < 5; person++) {
            Check.due("pass of " + person, bank.person(person, 1), passes[person]);
            Check.due("slow is " + person, bank.person(person, 2), slow[person]);
            Check.due("gate of " + person, bank.person(person, 3), gates[person]);
        }
        Check.due("time", bank.count(0), 1);
        Check.due("ticks of 2 digits", Check.runText(bank, "t23t10"), 2);
        Check.due("time", bank.count(0), 34);
        Check.due("inside", bank.count(3), 3);
        Check.due("out, and pinched", Check.runText(bank, "o1n1x1o0n4t3x0"), 5);
        Check.due("wait over", bank.person(1, 0), 2);
        Check.due("pinch told", bank.gate(1, 10), 1);
        Check.due("pinch told", bank.gate(0, 10), 1);
        Check.due("the same text again", bank.run(), 0);
    }

    private static void promise18StopsAtErrors() {
        TurnstileBank bank = Check.oneGate();
        Check.due("no such pass", Check.runText(bank, "t1i0p12t1"), 1);
        Check.due("stopped there", bank.count(0), 1);
        Check.due("no such person", Check.runText(bank, "t1o0n0t1"), 1);
        Check.due("stopped there", bank.count(0), 2);
        Check.due("not inside", Check.runText(bank, "i0o0n0t1"), 1);
        Check.due("NONE is no error", Check.runText(bank, "x0x0t1x0t1"), 5);
        Check.due("time", bank.count(0), 4);
        bank.fail(0);
        Check.due("out of order", Check.runText(bank, "t1x0t1"), 1);
        Check.due("time", bank.count(0), 5);
        Check.due("first one wrong", Check.runText(bank, "x0"), 0);
        for (int i = 1; i < 40; i++) {
            bank.enter(0, -1, false);
        }
        Check.due("no room", Check.runText(bank, "t1i0t1"), 1);
    }

    private static TurnstileBank withoutHistory() {
        TurnstileBank bank = Check.oneGate();
        while (bank.undo() > 0) {
            continue;
        }
        return bank;
    }

    private static TurnstileBank threeRuns() {
        TurnstileBank bank = withoutHistory();
        Check.due("run()", Check.runText(bank, "i0p0t9o0n0t2x0"), 5);
        Check.due("it is one act", bank.count(11), 1);
        Check.due("first order wrong", Check.runText(bank, "o0n9"), 0);
        Check.due("that is one act, too", bank.count(11), 2);
        Check.due("only NONE", Check.runText(bank, "x0"), 1);
        Check.due("that is one act, too", bank.count(11), 3);
        return bank;
    }

    private static void promise18IsOneAct() {
        TurnstileBank bank = threeRuns();
        Check.due("undo()", bank.undo(), 2);
        Check.due("undo()", bank.undo(), 1);
        Check.due("undo()", bank.undo(), 0);
        Check.due("the text stays", bank.count(12), 2);
        Check.due("as before", Whole.state(Whole.undone(OrdersTest::threeRuns, 3))
                .equals(Whole.state(OrdersTest::withoutHistory)));
    }

    private static void promise18LongText() {
        TurnstileBank bank = Check.oneGate();
        StringBuilder text = new StringBuilder();
        for (int i = 0; i < 25; i++) {
            text.append("t1");
        }
        Check.due("25 orders", Check.runText(bank, text.toString()), 25);
        Check.due("time", bank.count(0), 25);
        text.setCharAt(49, 'x');
        Check.due("fault at the end", Check.runText(bank, text.toString()), -149);
        text.setCharAt(48, '1');
        text.setCharAt(49, 't');
        Check.due("ends too early", Check.runText(bank, text.toString()), -150);
    }

    private static void promise19Undo() {
        TurnstileBank bank = new TurnstileBank();
        Check.due("empty", bank.undo(), NONE);
        for (int i = 1; i <= 6; i++) {
            bank.pass(i);
            Check.due("states", bank.count(11), Math.min(i, 4));
        }
        int[] times = {15, 10, 6, 3};
        for (int i = 0; i < 4; i++) {
            Check.due("undo()", bank.undo(), 3 - i);
            Check.due("states", bank.count(11), 3 - i);
            Check.due("time", bank.count(0), times[i]);
        }
        Check.due("empty", bank.undo(), NONE);
        Check.due("time", bank.count(0), 3);
        bank.pass(1);
        bank.pass(0);
        bank.setDirection(0, 0);
        Check.due("errors are not recorded", bank.count(11), 1);
        bank.pass(5);
        bank.undo();
        bank.pass(7);
        Check.due("states", bank.count(11), 2);
        bank.undo();
        Check.due("time", bank.count(0), 4);
        bank.undo();
        Check.due("time", bank.count(0), 3);
    }

    private static TurnstileBank muchGoesOn() {
        TurnstileBank bank = Check.oneGate();
        bank.addGate(2, 2, 2, 2);
        Check.runText(bank, "i0p0si0p1i1p2x0t9o0n0i0i0p7t3");
        return bank;
    }

    private static int fourActs(TurnstileBank bank) {
        bank.fail(0);
        bank.divert(0, 1);
        bank.setFare(3);
        Check.runText(bank, "i0p4i0p5t90t90");
        return bank.count(11);
    }

    private static int fourMoreActs(TurnstileBank bank) {
        bank.addPool(1);
        bank.addPass(1);
        bank.block(1, true);
        bank.credit(0, 5);
        return bank.count(11);
    }

    private static void promise19RestoresAll() {
        String before = Whole.state(OrdersTest::muchGoesOn);
        Supplier<TurnstileBank> then = Whole.then(OrdersTest::muchGoesOn, OrdersTest::fourActs);
        Check.due("something changed", !Whole.state(then).equals(before));
        Check.due("all is as before", Whole.state(Whole.undone(then, 4)).equals(before));
        then = Whole.then(Whole.undone(then, 4), OrdersTest::fourMoreActs);
        Check.due("something changed", !Whole.state(then).equals(before));
        Check.due("all is as before", Whole.state(Whole.undone(then, 4)).equals(before));
    }

    /** A bank in which much has happened already: each act changes something of it. */
    private static TurnstileBank busyBank() {
        TurnstileBank bank = Check.oneGate();
        bank.undo();
        bank.addGate(0, 2, 2, 2);
        Check.runText(bank, "i0p0si0p1i1p2x0t20o0n0i0i0p7t3x1");
        bank.enter(1, 8, true);
        bank.block(4, true);
        return bank;
    }

    private static int act(TurnstileBank bank, int act) {
        switch (act) {
            case 0:
                return bank.addGate(1, 2, 3, 4);
            case 1:
                return bank.setDirection(0, 2);
            case 2:
                return bank.addPool(7);
            case 3:
                return bank.credit(0, 77);
            case 4:
                return bank.addPass(0);
            case 5:
                return bank.block(3, true);
            case 6:
                return bank.setFare(33);
            case 7:
                return bank.enter(1, 9, true);
            case 8:
                return bank.exit(1, 2);
            case 9:
                return bank.divert(1, 0);
            case 10:
                return bank.pinch(0);
            case 11:
                return bank.fail(0);
            case 12:
                return bank.fail(1);
            case 13:
                return bank.pass(30);
            default:
                return Check.runText(bank, "x0t20o0n1i1i1p10st1");
        }
    }

    private static void promise19RestoresEachAct() {
        for (int number = 0; number <= 14; number++) {
            int act = number;
            Supplier<TurnstileBank> then = Whole.then(OrdersTest::busyBank, x -> act(x, act));
            Supplier<TurnstileBank> again = Whole.then(Whole.undone(then, 1), x -> act(x, act));
            Whole.act("act " + act, OrdersTest::busyBank, x -> act(x, act),
                    act(busyBank(), act));
            Check.due("act " + act + " stands", act(busyBank(), act) >= 0 || act == 12);
            String behind = Whole.state(then);
            Check.due("act " + act + " changes something",
                    !behind.equals(Whole.state(OrdersTest::busyBank)));
            Check.due("act " + act + " again", Whole.state(again).equals(behind));
            Check.due("act " + act + " is kept", Whole.state(Whole.undone(
                    Whole.then(again, x -> x.pass(77)), 1)).equals(behind));
        }
    }

    private static void promise19NumbersAreGivenAnew() {
        TurnstileBank bank = Check.oneGate();
        Check.runText(bank, "i0st1");
        Check.due("refused", bank.person(0, 4), 1);
        bank.undo();
        Check.due("no person", bank.person(0, 4), TurnstileBank.UNKNOWN);
        Check.due("enter(0, 2, false)", bank.enter(0, 2, false), 0);
        int[] due = {1, 2, 0, 0, 0, 0};
        for (int what = 0; what < due.length; what++) {
            Check.due("a new person: " + what, bank.person(0, what), due[what]);
        }
    }
}
