import java.util.Random;

/**
 * Promises 1 to 27 together: long runs of calls, the same ones each time, on the class and on the
 * model. Each answer is compared, and behind each call what is told.
 */
public final class RandomRunsTest {
    private static final int[] ODD = {Integer.MIN_VALUE, -100, -5, -2, -1, 0, 4, 8, 12, 41, 50,
        201, 1001, 100001, Integer.MAX_VALUE};
    private static final int RUNS = 200;
    private static final int CALLS = 512;

    private final Random random;
    private final TurnstileBank bank = new TurnstileBank();
    private final Model model = new Model();
    private String call = "";
    private boolean alike = true;

    private RandomRunsTest(long seed) {
        random = new Random(seed);
    }

    public static void main(String[] arguments) {
        for (int run = 0; run < RUNS; run++) {
            if (!new RandomRunsTest(run).agrees()) {
                System.out.println("that was run " + run);
                break;
            }
        }
        Check.end("RandomRunsTest");
    }

    private boolean agrees() {
        StringBuilder calls = new StringBuilder();
        for (int i = 0; i < CALLS; i++) {
            oneCall(i);
            calls.append(call).append('\n');
            compareTold();
            if (!alike) {
                System.out.println("the calls:\n" + calls);
                return false;
            }
        }
        return true;
    }

    private void due(String name, int got, int want) {
        Check.due(name, got, want);
        alike &= got == want;
    }

    private void answered(String name, int got, int want) {
        call = name + " = " + got;
        due(name, got, want);
    }

    private int between(int least, int most) {
        return random.nextInt(25) == 0 ? ODD[random.nextInt(ODD.length)]
                : least + random.nextInt(most - least + 1);
    }

    /** The number of one of so many. */
    private int oneOf(int size) {
        return between(0, Math.max(0, size - 1));
    }

    private int oneGate() {
        return oneOf(bank.count(1));
    }

    private int onePass() {
        return random.nextInt(12) == 0 ? -1 : oneOf(12);
    }

    /** A person who is inside, or of a few that were tried the last one. */
    private int somebodyInside() {
        int person = oneOf(bank.count(2));
        for (int i = 0; i < 10 && bank.person(person, 0) != 3; i++) {
            person = oneOf(bank.count(2));
        }
        return person;
    }

    private void oneCall(int number) {
        int kind = random.nextInt(100);
        if (number < 24 || kind < 8) {
            setUp();
        } else if (kind < 50) {
            movePeople();
        } else if (kind < 60) {
            orders();
        } else if (kind < 65) {
            answered("undo()", bank.undo(), model.undo());
        } else {
            int ticks = random.nextInt(12) == 0 ? between(1, 200) : between(1, 4);
            answered("pass(" + ticks + ")", bank.pass(ticks), model.pass(ticks));
        }
    }

    private void setUp() {
        int gate = oneGate();
        int pool = oneOf(4);
        int number;
        switch (random.nextInt(8)) {
            case 0, 1 -> {
                int direction = random.nextInt(3) > 0 ? 0 : between(0, 2);
                int opening = between(1, random.nextInt(4) == 0 ? 10 : 2);
                int hold = between(1, random.nextInt(4) == 0 ? 20 : 3);
                int closing = between(1, random.nextInt(4) == 0 ? 10 : 3);
                answered("addGate(" + direction + ", " + opening + ", " + hold + ", " + closing
                        + ")", bank.addGate(direction, opening, hold, closing),
                        model.addGate(direction, opening, hold, closing));
            }
            case 2 -> {
                number = between(0, 2);
                answered("setDirection(" + gate + ", " + number + ")",
                        bank.setDirection(gate, number), model.setDirection(gate, number));
            }
            case 3 -> {
                number = between(1, random.nextBoolean() ? 3 : 40);
                answered("addPool(" + number + ")", bank.addPool(number), model.addPool(number));
            }
            case 4 -> {
                number = between(1, random.nextInt(4) == 0 ? 100000 : 60);
                answered("credit(" + pool + ", " + number + ")", bank.credit(pool, number),
                        model.credit(pool, number));
            }
            case 5, 6 ->
                answered("addPass(" + pool + ")", bank.addPass(pool), model.addPass(pool));
            default -> {
                number = between(0, random.nextInt(4) == 0 ? 1000 : 12);
                answered("setFare(" + number + ")", bank.setFare(number), model.setFare(number));
            }
        }
    }

    private void movePeople() {
        int gate = oneGate();
        int person = somebodyInside();
        int pass = onePass();
        boolean yes = random.nextInt(3) == 0;
        switch (random.nextInt(16)) {
            case 0, 1, 2 ->
                answered("enter(" + gate + ", " + pass + ", " + yes + ")",
                        bank.enter(gate, pass, yes), model.enter(gate, pass, yes));
            case 3, 4, 5, 6 ->
                answered("exit(" + gate + ", " + person + ")", bank.exit(gate, person),
                        model.exit(gate, person));
            case 7 -> {
                int other = oneGate();
                answered("divert(" + gate + ", " + other + ")", bank.divert(gate, other),
                        model.divert(gate, other));
            }
            case 8, 9, 10, 11 ->
                answered("pinch(" + gate + ")", bank.pinch(gate), model.pinch(gate));
            case 12 ->
                answered("fail(" + gate + ")", bank.fail(gate), model.fail(gate));
            case 13, 14 ->
                answered("repair(" + gate + ")", bank.repair(gate), model.repair(gate));
            default ->
                answered("block(" + pass + ", " + yes + ")", bank.block(pass, yes),
                        model.block(pass, yes));
        }
    }

    private void orders() {
        int kind = random.nextInt(10);
        if (kind == 0) {
            answered("clearText()", bank.clearText(), model.clearText());
        } else if (kind < 3) {
            answered("run()", bank.run(), model.run());
        } else if (kind < 5) {
            char any = "iotxnps0123456789 q".charAt(random.nextInt(19));
            answered("type(" + any + ")", bank.type(any), model.type(any));
        } else {
            writeAndRun();
        }
    }

    private void writeAndRun() {
        StringBuilder text = new StringBuilder();
        int orders = 1 + random.nextInt(14);
        for (int i = 0; i < orders; i++) {
            text.append(anOrder());
        }
        if (random.nextInt(4) == 0) {
            text.setCharAt(random.nextInt(text.length()),
                    "iotxnps0123456789 q".charAt(random.nextInt(19)));
        }
        due("clearText()", bank.clearText(), model.clearText());
        for (int i = 0; i < text.length(); i++) {
            due("type of " + text, bank.type(text.charAt(i)), model.type(text.charAt(i)));
        }
        answered("run() of " + text, bank.run(), model.run());
    }

    private String anOrder() {
        int gate = random.nextInt(20) == 0 ? 9 : random.nextInt(Math.max(1, bank.count(1)));
        switch (random.nextInt(6)) {
            case 0:
                return "i" + gate + (random.nextInt(6) == 0 ? "" : "p" + random.nextInt(13))
                        + (random.nextInt(3) == 0 ? "s" : "");
            case 1:
                return "o" + gate + "n" + Math.min(99, Math.max(0, somebodyInside()));
            case 2, 3:
                return "x" + gate;
            default:
                return "t" + (random.nextInt(20) == 0 ? random.nextInt(105) : random.nextInt(6) + 1);
        }
    }

    private void compareTold() {
        for (int what = -1; what <= 13; what++) {
            due("count(" + what + ")", bank.count(what), model.count(what));
        }
        for (int gate = -1; gate <= 8; gate++) {
            for (int what = -1; what <= 11; what++) {
                due("gate(" + gate + ", " + what + ")", bank.gate(gate, what),
                        model.gate(gate, what));
            }
            for (int end = 0; end <= 1; end++) {
                for (int place = 0; place <= Math.max(0, bank.gate(gate, 4 + end)); place++) {
                    due("queued(" + gate + ", " + end + ", " + place + ")",
                            bank.queued(gate, end, place), model.queued(gate, end, place));
                }
            }
        }
        for (int person = -1; person <= bank.count(2); person++) {
            for (int what = -1; what <= 6; what++) {
                due("person(" + person + ", " + what + ")", bank.person(person, what),
                        model.person(person, what));
            }
        }
        for (int pool = -1; pool <= 4; pool++) {
            for (int what = -1; what <= 5; what++) {
                due("pool(" + pool + ", " + what + ")", bank.pool(pool, what),
                        model.pool(pool, what));
            }
        }
        for (int pass = -1; pass <= 12; pass++) {
            for (int what = -1; what <= 3; what++) {
                due("passOf(" + pass + ", " + what + ")", bank.passOf(pass, what),
                        model.passOf(pass, what));
            }
        }
        for (int event = -1; event <= 20; event++) {
            for (int what = -1; what <= 4; what++) {
                due("event(" + event + ", " + what + ")", bank.event(event, what),
                        model.event(event, what));
            }
        }
        compareOneOfMany();
    }

    private void compareOneOfMany() {
        int person = oneOf(bank.count(2));
        due("passesIn(" + person + ")", bank.passesIn(person), model.passesIn(person));
        int gate = oneGate();
        int end = between(0, 1);
        int place = between(0, 5);
        due("queued(" + gate + ", " + end + ", " + place + ")", bank.queued(gate, end, place),
                model.queued(gate, end, place));
    }
}
