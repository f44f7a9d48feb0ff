import java.util.ArrayList;
import java.util.List;
import java.util.Random;
import java.util.function.ToIntFunction;

/**
 * Promises 1 to 27 together: long runs of calls, the same ones each time, on the class and on the
 * model. Each answer is compared, behind each call a property, and at the end of a run all that is
 * told, in each state of the history. No object is asked more than 512 times, as what it answers
 * then is free: what is told at the end is asked of others, which are called in the same way.
 */
public final class RandomRunsTest {
    private static final int[] ODD = {Integer.MIN_VALUE, -100, -5, -2, -1, 0, 4, 8, 12, 40, 41, 50,
        201, 1001, 100001, Integer.MAX_VALUE};
    private static final String SIGNS = "iotxnps0123456789 q";
    private static final int RUNS = 8000;
    private static final int MOST_CALLS = 180;
    private static final int LONGEST_STEP = 52;
    private static final int MOST_STATES = 4;

    private record Call(String name, ToIntFunction<Face> made) {
    }

    private final Random random;
    private final Face bank = new Face.Real(new TurnstileBank());
    private final Model model = new Model();
    private final List<Call> calls = new ArrayList<>();
    private boolean alike = true;

    private RandomRunsTest(long seed) {
        random = new Random(seed);
    }

    public static void main(String[] arguments) {
        for (int run = 0; run < RUNS; run++) {
            RandomRunsTest one = new RandomRunsTest(run);
            one.makeCalls();
            one.compareAll();
            if (!one.alike) {
                System.out.println("in run " + run + ":");
                one.calls.forEach(call -> System.out.println("    " + call.name));
                break;
            }
        }
        Check.end("RandomRunsTest");
    }

    private void makeCalls() {
        int most = 40 + random.nextInt(MOST_CALLS - LONGEST_STEP - 40);
        int first = 8 + random.nextInt(20);
        for (int step = 0; alike && calls.size() <= most; step++) {
            if (step < first) {
                setUp();
            } else {
                oneStep();
            }
            oneQuestion();
        }
    }

    /** All that is told, now and behind each undo(). */
    private void compareAll() {
        for (int undone = 0; alike && undone <= MOST_STATES; undone++) {
            int times = undone;
            String due = Whole.told(() -> model);
            String got = Whole.told(() -> calledAgain(times));
            Check.due("all that is told, undone " + undone, got.equals(due));
            if (!got.equals(due)) {
                alike = false;
                System.out.println(got + "\n-- due is\n" + due);
            }
            model.undo();
        }
    }

    private Face calledAgain(int undone) {
        Face other = new Face.Real(new TurnstileBank());
        for (Call call : calls) {
            call.made.applyAsInt(other);
        }
        for (int i = 0; i < undone; i++) {
            other.undo();
        }
        return other;
    }

    private void compare(String name, ToIntFunction<Face> call) {
        int got = call.applyAsInt(bank);
        int due = call.applyAsInt(model);
        Check.due(name, got, due);
        alike &= got == due;
    }

    private void call(String name, ToIntFunction<Face> call) {
        calls.add(new Call(name, call));
        compare(name, call);
    }

    // ---- arguments

    private boolean oneIn(int many) {
        return random.nextInt(many) == 0;
    }

    private int between(int least, int most) {
        return oneIn(60) ? ODD[random.nextInt(ODD.length)]
                : least + random.nextInt(most - least + 1);
    }

    /** The number of one of so many. */
    private int oneOf(int size) {
        return between(0, Math.max(0, size - 1));
    }

    private int oneGate() {
        return oneOf(model.count(1));
    }

    /** A gate in this state, or of a few that were tried the last one. */
    private int gateIn(int state) {
        int gate = oneGate();
        for (int i = 0; i < 12 && model.gate(gate, 1) != state; i++) {
            gate = oneGate();
        }
        return gate;
    }

    /** A person who is inside, or of a few that were tried the last one. */
    private int somebodyInside() {
        int person = oneOf(model.count(2));
        for (int i = 0; i < 30 && model.person(person, 0) != 3; i++) {
            person = oneOf(model.count(2));
        }
        return person;
    }

    /** Mostly a pass by which its person could go in. */
    private int onePass() {
        int pass = oneOf(12);
        for (int i = 0; i < 12 && !oneIn(12) && (model.passOf(pass, 2) != TurnstileBank.NONE
                || model.passOf(pass, 1) != 0); i++) {
            pass = oneOf(12);
        }
        return oneIn(20) ? -1 : pass;
    }

    // ---- calls

    private void setUp() {
        switch (random.nextInt(9)) {
            case 0, 1 -> addGate();
            case 2 -> addPool();
            case 3, 4 -> credit(oneIn(4) ? 60 : 5000);
            case 5, 6, 7 -> addPass();
            default -> enter();
        }
    }

    private void oneStep() {
        int kind = random.nextInt(100);
        if (kind < 18) {
            enter();
        } else if (kind < 36) {
            exit();
        } else if (kind < 62) {
            int ticks = oneIn(12) ? between(1, 200) : between(1, oneIn(3) ? 9 : 3);
            call("pass(" + ticks + ")", x -> x.pass(ticks));
        } else if (kind < 76) {
            int gate = gateIn(oneIn(4) ? 1 + random.nextInt(4) : 3);
            call("pinch(" + gate + ")", x -> x.pinch(gate));
        } else if (kind < 80) {
            int gate = gateIn(oneIn(4) ? 0 : 1 + random.nextInt(4));
            call("fail(" + gate + ")", x -> x.fail(gate));
        } else if (kind < 86) {
            int gate = gateIn(5);
            call("repair(" + gate + ")", x -> x.repair(gate));
        } else if (kind < 89) {
            int gate = oneGate();
            int other = oneGate();
            call("divert(" + gate + ", " + other + ")", x -> x.divert(gate, other));
        } else if (kind < 92) {
            call("undo()", Face::undo);
        } else if (kind < 95) {
            orders();
        } else {
            change();
        }
    }

    private void addGate() {
        int direction = oneIn(3) ? between(0, 2) : 0;
        int opening = between(1, oneIn(4) ? 10 : 2);
        int hold = between(1, oneIn(4) ? 20 : 3);
        int closing = between(1, oneIn(4) ? 10 : 4);
        call("addGate(" + direction + ", " + opening + ", " + hold + ", " + closing + ")",
                x -> x.addGate(direction, opening, hold, closing));
    }

    private void addPool() {
        int limit = between(1, oneIn(3) ? 3 : 40);
        call("addPool(" + limit + ")", x -> x.addPool(limit));
    }

    private void credit(int most) {
        int pool = oneOf(4);
        int amount = between(1, most);
        call("credit(" + pool + ", " + amount + ")", x -> x.credit(pool, amount));
    }

    private void addPass() {
        int pool = oneOf(4);
        call("addPass(" + pool + ")", x -> x.addPass(pool));
    }

    private void enter() {
        int gate = oneGate();
        int pass = onePass();
        boolean slow = oneIn(3);
        call("enter(" + gate + ", " + pass + ", " + slow + ")", x -> x.enter(gate, pass, slow));
    }

    private void exit() {
        int gate = oneGate();
        int person = somebodyInside();
        call("exit(" + gate + ", " + person + ")", x -> x.exit(gate, person));
    }

    private void change() {
        switch (random.nextInt(8)) {
            case 0 -> addGate();
            case 1 -> addPool();
            case 2 -> credit(oneIn(2) ? 40 : 100000);
            case 3 -> addPass();
            case 4, 5 -> {
                int gate = oneGate();
                int direction = between(0, 2);
                call("setDirection(" + gate + ", " + direction + ")",
                        x -> x.setDirection(gate, direction));
            }
            case 6 -> {
                int fare = between(0, oneIn(3) ? 1000 : 12);
                call("setFare(" + fare + ")", x -> x.setFare(fare));
            }
            default -> {
                int pass = oneOf(12);
                boolean blocked = oneIn(2);
                call("block(" + pass + ", " + blocked + ")", x -> x.block(pass, blocked));
            }
        }
    }

    // ---- orders

    private void orders() {
        int kind = random.nextInt(10);
        if (kind == 0) {
            call("clearText()", Face::clearText);
        } else if (kind < 3) {
            call("run()", Face::run);
        } else if (kind < 4) {
            type(SIGNS.charAt(random.nextInt(SIGNS.length())));
        } else {
            writeAndRun();
        }
    }

    private void type(char sign) {
        call("type('" + sign + "')", x -> x.type(sign));
    }

    private void writeAndRun() {
        StringBuilder text = new StringBuilder();
        int orders = 1 + random.nextInt(14);
        for (int i = 0; i < orders; i++) {
            text.append(anOrder());
        }
        text.setLength(Math.min(50, text.length()));
        if (oneIn(4)) {
            text.setCharAt(random.nextInt(text.length()),
                    SIGNS.charAt(random.nextInt(SIGNS.length())));
        }
        call("clearText()", Face::clearText);
        for (int i = 0; i < text.length(); i++) {
            type(text.charAt(i));
        }
        call("run()", Face::run);
    }

    private String anOrder() {
        int gate = oneIn(30) ? 9 : random.nextInt(Math.max(1, model.count(1)));
        switch (random.nextInt(6)) {
            case 0:
                return "i" + gate + (oneIn(6) ? "" : "p" + Math.min(99, Math.max(0, onePass())))
                        + (oneIn(3) ? "s" : "");
            case 1:
                return "o" + gate + "n" + Math.min(99, Math.max(0, somebodyInside()));
            case 2, 3:
                return "x" + gate;
            default:
                return "t" + (oneIn(20) ? random.nextInt(105) : random.nextInt(6) + 1);
        }
    }

    // ---- what is told

    private void oneQuestion() {
        int gate = oneGate();
        int person = oneOf(model.count(2));
        int number = between(0, 20);
        int what = between(0, 12);
        int end = between(0, 1);
        switch (random.nextInt(oneIn(6) ? 8 : 7)) {
            case 0 -> compare("count(" + what + ")", x -> x.count(what));
            case 1 -> compare("gate(" + gate + ", " + what + ")", x -> x.gate(gate, what));
            case 2 -> compare("queued(" + gate + ", " + end + ", " + number + ")",
                    x -> x.queued(gate, end, number));
            case 3 -> compare("person(" + person + ", " + what + ")", x -> x.person(person, what));
            case 4 -> compare("pool(" + number + ", " + what + ")", x -> x.pool(number, what));
            case 5 -> compare("passOf(" + number + ", " + what + ")", x -> x.passOf(number, what));
            case 6 -> compare("event(" + number + ", " + what + ")", x -> x.event(number, what));
            default -> compare("passesIn(" + person + ")", x -> x.passesIn(person));
        }
    }
}
