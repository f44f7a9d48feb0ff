import java.util.Random;

/**
 * Promises 1 to 27 together: long runs of calls, the same ones each time, on the class and on the
 * model. Each answer is compared, and behind each act some of what is told. No object is asked
 * more than 512 times, as what it answers then is free.
 */
public final class RandomRunsTest {
    private static final int[] ODD = {Integer.MIN_VALUE, -100, -5, -2, -1, 0, 4, 8, 12, 41, 50,
        201, 1001, 100001, Integer.MAX_VALUE};
    private static final int RUNS = 4000;
    private static final int CALLS = 512;
    private static final int LONGEST_STEP = 52;
    private static final int QUESTIONS = 4;

    private final Random random;
    private final TurnstileBank bank = new TurnstileBank();
    private final Model model = new Model();
    private final StringBuilder calls = new StringBuilder();
    private int made = 0;
    private boolean alike = true;

    private RandomRunsTest(long seed) {
        random = new Random(seed);
    }

    public static void main(String[] arguments) {
        for (int run = 0; run < RUNS; run++) {
            if (!new RandomRunsTest(run).agrees()) {
                System.out.println("that was run " + run);
                break;
            }
        }
        Check.end("RandomRunsTest");
    }

    private boolean agrees() {
        for (int step = 0; made + LONGEST_STEP + QUESTIONS <= CALLS; step++) {
            oneCall(step);
            for (int i = 0; i < QUESTIONS; i++) {
                oneQuestion();
            }
            if (!alike) {
                System.out.println("the calls:\n" + calls);
                return false;
            }
        }
        while (made < CALLS) {
            oneQuestion();
        }
        return alike;
    }

    private void due(String name, int got, int want) {
        made++;
        Check.due(name, got, want);
        alike &= got == want;
    }

    private void answered(String name, int got, int want) {
        calls.append(name).append(" = ").append(got).append('\n');
        due(name, got, want);
    }

    private int between(int least, int most) {
        return random.nextInt(25) == 0 ? ODD[random.nextInt(ODD.length)]
                : least + random.nextInt(most - least + 1);
    }

    /** The number of one of so many. */
    private int oneOf(int size) {
        return between(0, Math.max(0, size - 1));
    }

    private int oneGate() {
        return oneOf(model.count(1));
    }

    private int onePass() {
        return random.nextInt(12) == 0 ? -1 : oneOf(12);
    }

    /** A person who is inside, or of a few that were tried the last one. */
    private int somebodyInside() {
        int person = oneOf(model.count(2));
        for (int i = 0; i < 10 && model.person(person, 0) != 3; i++) {
            person = oneOf(model.count(2));
        }
        return person;
    }

    private void oneCall(int number) {
        int kind = random.nextInt(100);
        if (number < 24 || kind < 8) {
            setUp();
        } else if (kind < 50) {
            movePeople();
        } else if (kind < 60) {
            orders();
        } else if (kind < 65) {
            answered("undo()", bank.undo(), model.undo());
        } else {
            int ticks = random.nextInt(12) == 0 ? between(1, 200) : between(1, 4);
            answered("pass(" + ticks + ")", bank.pass(ticks), model.pass(ticks));
        }
    }

    private void setUp() {
        int gate = oneGate();
        int pool = oneOf(4);
        int number;
        switch (random.nextInt(8)) {
            case 0, 1 -> {
                int direction = random.nextInt(3) > 0 ? 0 : between(0, 2);
                int opening = between(1, random.nextInt(4) == 0 ? 10 : 2);
                int hold = between(1, random.nextInt(4) == 0 ? 20 : 3);
                int closing = between(1, random.nextInt(4) == 0 ? 10 : 3);
                answered("addGate(" + direction + ", " + opening + ", " + hold + ", " + closing
                        + ")", bank.addGate(direction, opening, hold, closing),
                        model.addGate(direction, opening, hold, closing));
            }
            case 2 -> {
                number = between(0, 2);
                answered("setDirection(" + gate + ", " + number + ")",
                        bank.setDirection(gate, number), model.setDirection(gate, number));
            }
            case 3 -> {
                number = between(1, random.nextBoolean() ? 3 : 40);
                answered("addPool(" + number + ")", bank.addPool(number), model.addPool(number));
            }
            case 4 -> {
                number = between(1, random.nextInt(4) == 0 ? 100000 : 60);
                answered("credit(" + pool + ", " + number + ")", bank.credit(pool, number),
                        model.credit(pool, number));
            }
            case 5, 6 ->
                answered("addPass(" + pool + ")", bank.addPass(pool), model.addPass(pool));
            default -> {
                number = between(0, random.nextInt(4) == 0 ? 1000 : 12);
                answered("setFare(" + number + ")", bank.setFare(number), model.setFare(number));
            }
        }
    }

    private void movePeople() {
        int gate = oneGate();
        int person = somebodyInside();
        int pass = onePass();
        boolean yes = random.nextInt(3) == 0;
        switch (random.nextInt(16)) {
            case 0, 1, 2 ->
                answered("enter(" + gate + ", " + pass + ", " + yes + ")",
                        bank.enter(gate, pass, yes), model.enter(gate, pass, yes));
            case 3, 4, 5, 6 ->
                answered("exit(" + gate + ", " + person + ")", bank.exit(gate, person),
                        model.exit(gate, person));
            case 7 -> {
                int other = oneGate();
                answered("divert(" + gate + ", " + other + ")", bank.divert(gate, other),
                        model.divert(gate, other));
            }
            case 8, 9, 10, 11 ->
                answered("pinch(" + gate + ")", bank.pinch(gate), model.pinch(gate));
            case 12 ->
                answered("fail(" + gate + ")", bank.fail(gate), model.fail(gate));
            case 13, 14 ->
                answered("repair(" + gate + ")", bank.repair(gate), model.repair(gate));
            default ->
                answered("block(" + pass + ", " + yes + ")", bank.block(pass, yes),
                        model.block(pass, yes));
        }
    }

    private void orders() {
        int kind = random.nextInt(10);
        if (kind == 0) {
            answered("clearText()", bank.clearText(), model.clearText());
        } else if (kind < 3) {
            answered("run()", bank.run(), model.run());
        } else if (kind < 5) {
            char any = "iotxnps0123456789 q".charAt(random.nextInt(19));
            answered("type(" + any + ")", bank.type(any), model.type(any));
        } else {
            writeAndRun();
        }
    }

    private void writeAndRun() {
        StringBuilder text = new StringBuilder();
        int orders = 1 + random.nextInt(14);
        for (int i = 0; i < orders; i++) {
            text.append(anOrder());
        }
        if (random.nextInt(4) == 0) {
            text.setCharAt(random.nextInt(text.length()),
                    "iotxnps0123456789 q".charAt(random.nextInt(19)));
        }
        due("clearText()", bank.clearText(), model.clearText());
        for (int i = 0; i < text.length(); i++) {
            due("type of " + text, bank.type(text.charAt(i)), model.type(text.charAt(i)));
        }
        answered("run() of " + text, bank.run(), model.run());
    }

    private String anOrder() {
        int gate = random.nextInt(20) == 0 ? 9 : random.nextInt(Math.max(1, model.count(1)));
        switch (random.nextInt(6)) {
            case 0:
                return "i" + gate + (random.nextInt(6) == 0 ? "" : "p" + random.nextInt(13))
                        + (random.nextInt(3) == 0 ? "s" : "");
            case 1:
                return "o" + gate + "n" + Math.min(99, Math.max(0, somebodyInside()));
            case 2, 3:
                return "x" + gate;
            default:
                return "t" + (random.nextInt(20) == 0 ? random.nextInt(105) : random.nextInt(6) + 1);
        }
    }

    private void oneQuestion() {
        switch (random.nextInt(random.nextInt(6) == 0 ? 9 : 8)) {
            case 0 -> {
                int what = between(0, 12);
                due("count(" + what + ")", bank.count(what), model.count(what));
            }
            case 1, 2 -> {
                int gate = oneGate();
                int what = between(0, 10);
                due("gate(" + gate + ", " + what + ")", bank.gate(gate, what),
                        model.gate(gate, what));
            }
            case 3 -> askOneQueue();
            case 4 -> {
                int person = oneOf(model.count(2));
                int what = between(0, 5);
                due("person(" + person + ", " + what + ")", bank.person(person, what),
                        model.person(person, what));
            }
            case 5 -> {
                int pool = oneOf(4);
                int what = between(0, 4);
                due("pool(" + pool + ", " + what + ")", bank.pool(pool, what),
                        model.pool(pool, what));
            }
            case 6 -> {
                int pass = oneOf(12);
                int what = between(0, 2);
                due("passOf(" + pass + ", " + what + ")", bank.passOf(pass, what),
                        model.passOf(pass, what));
            }
            case 7 -> {
                int event = random.nextInt(3) == 0 ? 0 : between(0, 20);
                int what = between(0, 3);
                due("event(" + event + ", " + what + ")", bank.event(event, what),
                        model.event(event, what));
            }
            default -> {
                int person = oneOf(model.count(2));
                due("passesIn(" + person + ")", bank.passesIn(person), model.passesIn(person));
            }
        }
    }

    private void askOneQueue() {
        int gate = oneGate();
        int end = between(0, 1);
        int place = between(0, Math.max(0, model.gate(gate, 4 + Math.floorMod(end, 2))));
        due("queued(" + gate + ", " + end + ", " + place + ")", bank.queued(gate, end, place),
                model.queued(gate, end, place));
    }
}
