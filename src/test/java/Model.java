import java.util.ArrayDeque;
import java.util.ArrayList;
import java.util.Deque;
import java.util.List;
import java.util.regex.Matcher;
import java.util.regex.Pattern;

/**
 * The document told a second time, with lists and copies in place of rows: what the class counts
 * on its way, this one counts anew each time it is asked.
 */
final class Model implements Face {
    private static final int UNKNOWN = -1;
    private static final int BAD_VALUE = -2;
    private static final int FULL = -3;
    private static final int NOT_POSSIBLE = -4;
    private static final int NONE = -5;

    private static final class Gate implements Cloneable {
        int direction;
        int opening;
        int hold;
        int closing;
        String state = "closed";
        int left;
        int closedFor;
        int person = NONE;
        int pinchesNow;
        boolean told;
        int in;
        int out;
        int refused;
        int pinches;
        List<Integer> outer = new ArrayList<>();
        List<Integer> inner = new ArrayList<>();

        Gate copy() {
            try {
                Gate copy = (Gate) clone();
                copy.outer = new ArrayList<>(outer);
                copy.inner = new ArrayList<>(inner);
                return copy;
            } catch (CloneNotSupportedException impossible) {
                throw new IllegalStateException(impossible);
            }
        }
    }

    /** Where: 0 outside, 1 waits to go in, 2 in a gate, 3 inside, 4 waits to go out, 5 gone. */
    private record Person(int where, int pass, boolean slow, int gate, int reason, int waited,
            boolean out) {
        Person at(int whereThen, int gateThen) {
            return new Person(whereThen, pass, slow, gateThen, reason, 0, out);
        }
    }

    private record Event(int tick, int gate, int person, int kind) {
    }

    private static final class State {
        List<Gate> gates = new ArrayList<>();
        List<Person> people = new ArrayList<>();
        List<Integer> passPools = new ArrayList<>();
        List<Boolean> passBlocked = new ArrayList<>();
        List<Integer> limits = new ArrayList<>();
        List<Integer> credits = new ArrayList<>();
        List<Integer> paid = new ArrayList<>();
        List<Event> events = new ArrayList<>();
        int time;
        int fare = 10;

        State copy() {
            State copy = new State();
            for (Gate gate : gates) {
                copy.gates.add(gate.copy());
            }
            copy.people.addAll(people);
            copy.passPools.addAll(passPools);
            copy.passBlocked.addAll(passBlocked);
            copy.limits.addAll(limits);
            copy.credits.addAll(credits);
            copy.paid.addAll(paid);
            copy.events.addAll(events);
            copy.time = time;
            copy.fare = fare;
            return copy;
        }
    }

    private State s = new State();
    private final Deque<State> history = new ArrayDeque<>();
    private String text = "";
    private boolean recording = true;

    // ---- acts

    private void record() {
        if (recording) {
            history.addLast(s.copy());
            if (history.size() > 4) {
                history.removeFirst();
            }
        }
    }

    private static boolean has(List<?> list, int index) {
        return index >= 0 && index < list.size();
    }

    @Override
    public int addGate(int direction, int opening, int hold, int closing) {
        if (direction < 0 || direction > 2 || opening < 1 || opening > 10 || hold < 1 || hold > 20
                || closing < 1 || closing > 10) {
            return BAD_VALUE;
        }
        if (s.gates.size() == 8) {
            return FULL;
        }
        record();
        Gate gate = new Gate();
        gate.direction = direction;
        gate.opening = opening;
        gate.hold = hold;
        gate.closing = closing;
        s.gates.add(gate);
        return s.gates.size() - 1;
    }

    @Override
    public int setDirection(int gate, int direction) {
        if (!has(s.gates, gate)) {
            return UNKNOWN;
        }
        if (direction < 0 || direction > 2) {
            return BAD_VALUE;
        }
        record();
        int previous = s.gates.get(gate).direction;
        s.gates.get(gate).direction = direction;
        return previous;
    }

    @Override
    public int addPool(int limit) {
        if (limit < 1 || limit > 40) {
            return BAD_VALUE;
        }
        if (s.limits.size() == 4) {
            return FULL;
        }
        record();
        s.limits.add(limit);
        s.credits.add(0);
        s.paid.add(0);
        return s.limits.size() - 1;
    }

    @Override
    public int credit(int pool, int amount) {
        if (!has(s.limits, pool)) {
            return UNKNOWN;
        }
        if (amount < 1 || amount > 100000) {
            return BAD_VALUE;
        }
        if (s.credits.get(pool) + amount > 1000000) {
            return NOT_POSSIBLE;
        }
        record();
        s.credits.set(pool, s.credits.get(pool) + amount);
        return s.credits.get(pool);
    }

    @Override
    public int addPass(int pool) {
        if (!has(s.limits, pool)) {
            return UNKNOWN;
        }
        if (s.passPools.size() == 12) {
            return FULL;
        }
        record();
        s.passPools.add(pool);
        s.passBlocked.add(false);
        return s.passPools.size() - 1;
    }

    @Override
    public int block(int pass, boolean blocked) {
        if (!has(s.passPools, pass)) {
            return UNKNOWN;
        }
        if (s.passBlocked.get(pass) == blocked) {
            return NONE;
        }
        record();
        s.passBlocked.set(pass, blocked);
        return (int) s.passBlocked.stream().filter(one -> one).count();
    }

    @Override
    public int setFare(int fare) {
        if (fare < 0 || fare > 1000) {
            return BAD_VALUE;
        }
        record();
        int previous = s.fare;
        s.fare = fare;
        return previous;
    }

    @Override
    public int enter(int gate, int pass, boolean slow) {
        if (!has(s.gates, gate) || (pass != -1 && !has(s.passPools, pass))) {
            return UNKNOWN;
        }
        if (s.people.size() == 40) {
            return FULL;
        }
        record();
        s.people.add(new Person(1, pass == -1 ? NONE : pass, slow, gate, 0, 0, false));
        s.gates.get(gate).outer.add(s.people.size() - 1);
        return s.people.size() - 1;
    }

    @Override
    public int exit(int gate, int person) {
        if (!has(s.gates, gate) || !has(s.people, person)) {
            return UNKNOWN;
        }
        Person p = s.people.get(person);
        if (p.where != 3) {
            return NOT_POSSIBLE;
        }
        record();
        s.people.set(person, new Person(4, p.pass, p.slow, gate, p.reason, 0, true));
        s.gates.get(gate).inner.add(person);
        return s.gates.get(gate).inner.size();
    }

    @Override
    public int divert(int gate, int other) {
        if (!has(s.gates, gate) || !has(s.gates, other)) {
            return UNKNOWN;
        }
        if (gate == other) {
            return BAD_VALUE;
        }
        Gate from = s.gates.get(gate);
        int moved = from.outer.size() + from.inner.size();
        if (moved == 0) {
            return NONE;
        }
        record();
        Gate to = s.gates.get(other);
        to.outer.addAll(from.outer);
        to.inner.addAll(from.inner);
        from.outer.clear();
        from.inner.clear();
        s.people.replaceAll(p -> (p.where == 1 || p.where == 4) && p.gate == gate
                ? new Person(p.where, p.pass, p.slow, other, p.reason, p.waited, p.out) : p);
        return moved;
    }

    @Override
    public int pinch(int gate) {
        if (!has(s.gates, gate)) {
            return UNKNOWN;
        }
        Gate g = s.gates.get(gate);
        if (g.state.equals("out of order")) {
            return NOT_POSSIBLE;
        }
        if (g.told) {
            return NONE;
        }
        record();
        g.told = true;
        return g.state.equals("closing") ? 1 : 0;
    }

    @Override
    public int fail(int gate) {
        if (!has(s.gates, gate)) {
            return UNKNOWN;
        }
        Gate g = s.gates.get(gate);
        if (g.state.equals("out of order")) {
            return NOT_POSSIBLE;
        }
        record();
        int person = g.person;
        breakDown(gate, g);
        return person;
    }

    @Override
    public int repair(int gate) {
        if (!has(s.gates, gate)) {
            return UNKNOWN;
        }
        Gate g = s.gates.get(gate);
        if (!g.state.equals("out of order")) {
            return NOT_POSSIBLE;
        }
        record();
        g.state = "closed";
        s.events.add(new Event(s.time, gate, NONE, 6));
        return g.outer.size() + g.inner.size();
    }

    @Override
    public int pass(int ticks) {
        if (ticks < 1 || ticks > 200) {
            return BAD_VALUE;
        }
        record();
        int before = passages();
        for (int i = 0; i < ticks; i++) {
            tick();
        }
        return passages() - before;
    }

    private int passages() {
        return s.gates.stream().mapToInt(g -> g.in + g.out).sum();
    }

    private void tick() {
        for (int gate = 0; gate < s.gates.size(); gate++) {
            step(gate, s.gates.get(gate));
        }
        s.time++;
        s.people.replaceAll(p -> p.where == 1 || p.where == 4
                ? new Person(p.where, p.pass, p.slow, p.gate, p.reason, p.waited + 1, p.out) : p);
    }

    private void step(int number, Gate g) {
        switch (g.state) {
            case "closed" -> take(number, g);
            case "opening", "reversing" -> {
                if (--g.left == 0) {
                    g.state = "open";
                    g.left = g.hold + (s.people.get(g.person).slow ? 2 : 0);
                }
            }
            case "open" -> {
                if (--g.left == 0) {
                    g.state = "closing";
                    g.left = g.closing;
                    g.closedFor = 0;
                }
            }
            case "closing" -> {
                g.left--;
                g.closedFor++;
                if (g.told) {
                    g.told = false;
                    g.pinches++;
                    s.events.add(new Event(s.time, number, g.person, 4));
                    if (++g.pinchesNow == 3) {
                        breakDown(number, g);
                    } else {
                        g.state = "reversing";
                        g.left = g.closedFor;
                    }
                } else if (g.left == 0) {
                    g.state = "closed";
                    through(number, g);
                }
            }
            default -> { }
        }
    }

    private void breakDown(int number, Gate g) {
        g.state = "out of order";
        g.left = 0;
        g.told = false;
        s.events.add(new Event(s.time, number, NONE, 5));
        if (g.person != NONE) {
            through(number, g);
        }
    }

    private void through(int number, Gate g) {
        Person p = s.people.get(g.person);
        s.people.set(g.person, p.at(p.out ? 5 : 3, NONE));
        s.events.add(new Event(s.time, number, g.person, p.out ? 3 : 2));
        if (p.out) {
            g.out++;
        } else {
            g.in++;
        }
        g.person = NONE;
    }

    private void take(int number, Gate g) {
        List<Integer> queue = g.direction == 1 ? g.outer : g.inner;
        if (g.direction == 0 && !g.outer.isEmpty() && (g.inner.isEmpty()
                || s.people.get(g.outer.get(0)).waited > s.people.get(g.inner.get(0)).waited)) {
            queue = g.outer;
        }
        if (queue.isEmpty()) {
            return;
        }
        int person = queue.remove(0);
        Person p = s.people.get(person);
        if (!p.out) {
            int reason = reason(p);
            if (reason > 0) {
                g.refused++;
                s.people.set(person, new Person(0, p.pass, p.slow, NONE, reason, 0, false));
                s.events.add(new Event(s.time, number, person, 1));
                return;
            }
            int pool = s.passPools.get(p.pass);
            s.credits.set(pool, s.credits.get(pool) - s.fare);
            s.paid.set(pool, s.paid.get(pool) + s.fare);
            s.events.add(new Event(s.time, number, person, 0));
        }
        s.people.set(person, p.at(2, number));
        g.person = person;
        g.pinchesNow = 0;
        g.state = "opening";
        g.left = g.opening;
    }

    private int reason(Person p) {
        if (p.pass == NONE) {
            return 1;
        }
        int pool = s.passPools.get(p.pass);
        return s.passBlocked.get(p.pass) ? 2 : user(p.pass) != NONE ? 3
                : inside(pool) >= s.limits.get(pool) ? 4 : s.credits.get(pool) < s.fare ? 5 : 0;
    }

    private int user(int pass) {
        for (int person = 0; person < s.people.size(); person++) {
            Person p = s.people.get(person);
            if (p.pass == pass && p.where >= 2 && p.where <= 4) {
                return person;
            }
        }
        return NONE;
    }

    private int inside(int pool) {
        return (int) s.people.stream().filter(p -> p.where >= 2 && p.where <= 4
                && s.passPools.get(p.pass) == pool).count();
    }

    // ---- orders

    @Override
    public int type(char character) {
        if (text.length() == 50) {
            return FULL;
        }
        text += character;
        return text.length();
    }

    @Override
    public int clearText() {
        int before = text.length();
        text = "";
        return before;
    }

    @Override
    public int run() {
        String gate = s.gates.isEmpty() ? "[^\\s\\S]" : "[0-" + (s.gates.size() - 1) + "]";
        String order = "(?:i" + gate + "(?:p(?:0|[1-9][0-9]?))?s?|o" + gate
                + "n(?:0|[1-9][0-9]?)|t[1-9][0-9]?|x" + gate + ")";
        Pattern all = Pattern.compile(order + "+");
        for (int length = 0; length <= text.length(); length++) {
            Matcher matcher = all.matcher(text.substring(0, length));
            boolean fits = matcher.matches();
            if (!fits && !matcher.hitEnd()) {
                return -100 - (length - 1);
            }
            if (!fits && length == text.length()) {
                return -100 - length;
            }
        }
        record();
        recording = false;
        int done = 0;
        Matcher orders = Pattern.compile(order).matcher(text);
        while (orders.find()) {
            int answer = carryOut(orders.group());
            if (answer < 0 && answer != NONE) {
                break;
            }
            done++;
        }
        recording = true;
        return done;
    }

    private int carryOut(String order) {
        int gate = order.charAt(1) - '0';
        switch (order.charAt(0)) {
            case 'i':
                String pass = order.substring(2).replace("p", "").replace("s", "");
                return enter(gate, pass.isEmpty() ? -1 : Integer.parseInt(pass),
                        order.endsWith("s"));
            case 'o':
                return exit(gate, Integer.parseInt(order.substring(3)));
            case 't':
                return pass(Integer.parseInt(order.substring(1)));
            default:
                return pinch(gate);
        }
    }

    @Override
    public int undo() {
        if (history.isEmpty()) {
            return NONE;
        }
        s = history.removeLast();
        return history.size();
    }

    // ---- what is told

    private static int told(int what, int... all) {
        return what < 0 || what >= all.length ? BAD_VALUE : all[what];
    }

    @Override
    public int gate(int gate, int what) {
        if (!has(s.gates, gate)) {
            return UNKNOWN;
        }
        Gate g = s.gates.get(gate);
        int state = List.of("closed", "opening", "open", "closing", "reversing", "out of order")
                .indexOf(g.state);
        return told(what, g.direction, state, g.left, g.person, g.outer.size(), g.inner.size(),
                g.in, g.out, g.refused, g.pinches, g.told ? 1 : 0);
    }

    @Override
    public int queued(int gate, int end, int place) {
        if (!has(s.gates, gate)) {
            return UNKNOWN;
        }
        if (end < 0 || end > 1 || place < 0) {
            return BAD_VALUE;
        }
        List<Integer> queue = end == 0 ? s.gates.get(gate).outer : s.gates.get(gate).inner;
        return has(queue, place) ? queue.get(place) : NONE;
    }

    @Override
    public int person(int person, int what) {
        if (!has(s.people, person)) {
            return UNKNOWN;
        }
        Person p = s.people.get(person);
        return told(what, p.where, p.pass, p.slow ? 1 : 0, p.gate, p.reason, p.waited);
    }

    @Override
    public int pool(int pool, int what) {
        if (!has(s.limits, pool)) {
            return UNKNOWN;
        }
        int passes = (int) s.passPools.stream().filter(owner -> owner == pool).count();
        return told(what, s.credits.get(pool), s.limits.get(pool), inside(pool), passes,
                s.paid.get(pool));
    }

    @Override
    public int passOf(int pass, int what) {
        if (!has(s.passPools, pass)) {
            return UNKNOWN;
        }
        return told(what, s.passPools.get(pass), s.passBlocked.get(pass) ? 1 : 0, user(pass));
    }

    @Override
    public int event(int event, int what) {
        if (event < 0 || what < 0 || what > 3) {
            return BAD_VALUE;
        }
        if (event >= Math.min(20, s.events.size())) {
            return NONE;
        }
        Event e = s.events.get(s.events.size() - 1 - event);
        return told(what, e.tick, e.gate, e.person, e.kind);
    }

    @Override
    public int passesIn(int person) {
        if (!has(s.people, person)) {
            return UNKNOWN;
        }
        int where = s.people.get(person).where;
        if (where != 1 && where != 2 && where != 4) {
            return NOT_POSSIBLE;
        }
        State real = s;
        s = s.copy();
        int answer = NONE;
        for (int ticks = 1; ticks <= 500 && answer == NONE; ticks++) {
            tick();
            where = s.people.get(person).where;
            if (where == 3 || where == 5) {
                answer = ticks;
            }
        }
        s = real;
        return answer;
    }

    private int peopleAt(int where) {
        return (int) s.people.stream().filter(p -> p.where == where).count();
    }

    @Override
    public int count(int what) {
        int longest = NONE;
        for (int gate = s.gates.size() - 1; gate >= 0; gate--) {
            if (longest == NONE || gate(gate, 4) + gate(gate, 5)
                    >= gate(longest, 4) + gate(longest, 5)) {
                longest = gate;
            }
        }
        int fares = s.paid.stream().mapToInt(one -> one).sum();
        return told(what, s.time, s.gates.size(), s.people.size(), peopleAt(3) + peopleAt(4),
                peopleAt(1), peopleAt(2), peopleAt(5), peopleAt(0), fares, s.fare, longest,
                history.size(), text.length());
    }
}
