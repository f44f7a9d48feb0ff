/**
 * A bank of turnstiles: gates with directions, passes with fares that belong to pools, queues on
 * both ends, leaves that close and reverse when they pinch somebody, outages, people inside who
 * are counted, events told in order, orders as texts, undo and snapshots.
 *
 * <p>All rows are made when the object is made; no call makes another object.
 */
public final class TurnstileBank {
    /** There is no such gate, person, pass or pool. */
    public static final int UNKNOWN = -1;
    /** Another argument is out of range. */
    public static final int BAD_VALUE = -2;
    /** There is no more room. */
    public static final int FULL = -3;
    /** This is not possible. */
    public static final int NOT_POSSIBLE = -4;
    /** There is no such thing; not an error. */
    public static final int NONE = -5;

    private static final int MOST_GATES = 8;
    private static final int MOST_PEOPLE = 40;
    private static final int MOST_POOLS = 4;
    private static final int MOST_PASSES = 12;
    private static final int MOST_EVENTS = 20;
    private static final int MOST_STATES = 4;
    private static final int MOST_TEXT = 50;

    private static final int MOST_OPENING = 10;
    private static final int MOST_HOLD = 20;
    private static final int MOST_CLOSING = 10;
    private static final int MOST_LIMIT = 40;
    private static final int MOST_AMOUNT = 100000;
    private static final int MOST_CREDIT = 1000000;
    private static final int FIRST_FARE = 10;
    private static final int MOST_FARE = 1000;
    private static final int MOST_TICKS = 200;
    private static final int TICKS_FORESEEN = 500;
    private static final int TICKS_MORE_IF_SLOW = 2;
    private static final int PINCHES_TO_BREAK = 3;
    private static final int NO_PASS = -1;

    private static final int BOTH_WAYS = 0;
    private static final int IN_ONLY = 1;
    private static final int OUT_ONLY = 2;

    private static final int CLOSED = 0;
    private static final int OPENING = 1;
    private static final int OPEN = 2;
    private static final int CLOSING = 3;
    private static final int REVERSING = 4;
    private static final int OUT_OF_ORDER = 5;

    private static final int OUTSIDE = 0;
    private static final int WAITING_IN = 1;
    private static final int IN_GATE = 2;
    private static final int INSIDE = 3;
    private static final int WAITING_OUT = 4;
    private static final int GONE = 5;

    private static final int NOT_REFUSED = 0;
    private static final int WITHOUT_PASS = 1;
    private static final int PASS_BLOCKED = 2;
    private static final int PASS_IN_USE = 3;
    private static final int POOL_AT_LIMIT = 4;
    private static final int CREDIT_TOO_LOW = 5;

    private static final int EVENT_LET_IN = 0;
    private static final int EVENT_REFUSED = 1;
    private static final int EVENT_INSIDE = 2;
    private static final int EVENT_GONE = 3;
    private static final int EVENT_PINCHED = 4;
    private static final int EVENT_OUT_OF_ORDER = 5;
    private static final int EVENT_REPAIRED = 6;

    private static final int NO_FAULT = -1;
    private static final int FAULT_BASE = -100;

    private final State now = new State();
    private final State trial = new State();
    private final History history = new History();
    private final Orders orders = new Orders();

    /** Creates a bank without gates. */
    public TurnstileBank() {
    }

    // ---- gates, pools, passes

    /** Adds a gate, closed; its number, BAD_VALUE, or FULL. */
    public int addGate(int direction, int opening, int hold, int closing) {
        history.prepare(now);
        return recorded(now.newGate(direction, opening, hold, closing));
    }

    /** Sets the direction of a gate; the previous one, UNKNOWN, or BAD_VALUE. */
    public int setDirection(int gate, int direction) {
        history.prepare(now);
        return recorded(now.turnGate(gate, direction));
    }

    /** Adds a pool; its number, BAD_VALUE, or FULL. */
    public int addPool(int limit) {
        history.prepare(now);
        return recorded(now.newPool(limit));
    }

    /** Adds credit to a pool; the credit then, UNKNOWN, BAD_VALUE, or NOT_POSSIBLE. */
    public int credit(int pool, int amount) {
        history.prepare(now);
        return recorded(now.addCredit(pool, amount));
    }

    /** Adds a valid pass; its number, UNKNOWN, or FULL. */
    public int addPass(int pool) {
        history.prepare(now);
        return recorded(now.newPass(pool));
    }

    /** Blocks a pass, or makes it valid; the blocked passes then, UNKNOWN, or NONE. */
    public int block(int pass, boolean blocked) {
        history.prepare(now);
        return recorded(now.markPass(pass, blocked));
    }

    /** Sets the fare; the previous one, or BAD_VALUE. */
    public int setFare(int fare) {
        history.prepare(now);
        return recorded(now.changeFare(fare));
    }

    // ---- people

    /** A person comes who wants in; the number of the person, UNKNOWN, or FULL. */
    public int enter(int gate, int pass, boolean slow) {
        history.prepare(now);
        return recorded(now.comeIn(gate, pass, slow));
    }

    /** A person who is inside wants out; the length of the queue, UNKNOWN, or NOT_POSSIBLE. */
    public int exit(int gate, int person) {
        history.prepare(now);
        return recorded(now.goOut(gate, person));
    }

    /** Moves the queues of a gate to another; how many people, UNKNOWN, BAD_VALUE, or NONE. */
    public int divert(int gate, int other) {
        history.prepare(now);
        return recorded(now.moveQueues(gate, other));
    }

    /** Tells a pinch; 1 if the gate is closing, otherwise 0; UNKNOWN, NOT_POSSIBLE, or NONE. */
    public int pinch(int gate) {
        history.prepare(now);
        return recorded(now.tellPinch(gate));
    }

    /** Puts a gate out of order; the person let through, NONE, UNKNOWN, or NOT_POSSIBLE. */
    public int fail(int gate) {
        history.prepare(now);
        int answer = now.putOutOfOrder(gate);
        // Alone among the acts, this one is recorded with the answer NONE too.
        if (!isError(answer)) {
            history.keep();
        }
        return answer;
    }

    /** Repairs a gate; the people in both queues, UNKNOWN, or NOT_POSSIBLE. */
    public int repair(int gate) {
        history.prepare(now);
        return recorded(now.putInOrder(gate));
    }

    /** Lets ticks go by; how many people became inside or gone in them, or BAD_VALUE. */
    public int pass(int ticks) {
        history.prepare(now);
        return recorded(now.letTicksGo(ticks));
    }

    // ---- orders

    /** Appends a character to the text; its length then, or FULL. */
    public int type(char character) {
        return orders.append(character);
    }

    /** Empties the text; the length that it had. */
    public int clearText() {
        return orders.erase();
    }

    /** Carries out the orders of the text; how many, or -100 minus the fault of the text. */
    public int run() {
        int fault = orders.findFault(now.gateCount);
        if (fault != NO_FAULT) {
            return FAULT_BASE - fault;
        }
        history.prepare(now);
        history.keep();
        orders.restart();
        int done = 0;
        while (done < MOST_TEXT && orders.readOrder(now.gateCount) && !isError(carryOut())) {
            done++;
        }
        return done;
    }

    /** Restores the latest state of the history; the states that are left, or NONE. */
    public int undo() {
        if (history.length == 0) {
            return NONE;
        }
        now.copyFrom(history.takeLatest());
        return history.length;
    }

    // ---- what is told

    /** A property of a gate, UNKNOWN, or BAD_VALUE. */
    public int gate(int gate, int what) {
        Gate asked = now.gateAt(gate);
        if (asked == null) {
            return UNKNOWN;
        }
        switch (what) {
            case 0:
                return asked.direction;
            case 1:
                return asked.state;
            case 2:
                return asked.left;
            case 3:
                return asked.person;
            case 4:
                return asked.outer.length;
            case 5:
                return asked.inner.length;
            case 6:
                return asked.passedIn;
            case 7:
                return asked.passedOut;
            case 8:
                return asked.refused;
            case 9:
                return asked.pinches;
            case 10:
                return asked.pinchTold ? 1 : 0;
            default:
                return BAD_VALUE;
        }
    }

    /** The person at a place of a queue, UNKNOWN, BAD_VALUE, or NONE. */
    public int queued(int gate, int end, int place) {
        Gate asked = now.gateAt(gate);
        if (asked == null) {
            return UNKNOWN;
        }
        if (end < 0 || end > 1 || place < 0) {
            return BAD_VALUE;
        }
        return end == 0 ? asked.outer.personAtPlace(place) : asked.inner.personAtPlace(place);
    }

    /** A property of a person, UNKNOWN, or BAD_VALUE. */
    public int person(int person, int what) {
        Person asked = now.personAt(person);
        if (asked == null) {
            return UNKNOWN;
        }
        switch (what) {
            case 0:
                return asked.where;
            case 1:
                return asked.pass;
            case 2:
                return asked.slow ? 1 : 0;
            case 3:
                return asked.gate;
            case 4:
                return asked.refusal;
            case 5:
                return asked.isWaiting() ? now.time - asked.waitingSince : 0;
            default:
                return BAD_VALUE;
        }
    }

    /** A property of a pool, UNKNOWN, or BAD_VALUE. */
    public int pool(int pool, int what) {
        Pool asked = now.poolAt(pool);
        if (asked == null) {
            return UNKNOWN;
        }
        switch (what) {
            case 0:
                return asked.credit;
            case 1:
                return asked.limit;
            case 2:
                return asked.inside;
            case 3:
                return asked.passes;
            case 4:
                return asked.paid;
            default:
                return BAD_VALUE;
        }
    }

    /** A property of a pass, UNKNOWN, or BAD_VALUE. */
    public int passOf(int pass, int what) {
        Pass asked = now.passAt(pass);
        if (asked == null) {
            return UNKNOWN;
        }
        switch (what) {
            case 0:
                return asked.pool;
            case 1:
                return asked.blocked ? 1 : 0;
            case 2:
                return asked.user;
            default:
                return BAD_VALUE;
        }
    }

    /** A property of an event, BAD_VALUE, or NONE. */
    public int event(int event, int what) {
        if (event < 0 || what < 0 || what > 3) {
            return BAD_VALUE;
        }
        return now.events.property(event, what);
    }

    /** In how many ticks a person will be inside or gone; UNKNOWN, NOT_POSSIBLE, or NONE. */
    public int passesIn(int person) {
        Person asked = now.personAt(person);
        if (asked == null) {
            return UNKNOWN;
        }
        if (!asked.isWaiting() && asked.where != IN_GATE) {
            return NOT_POSSIBLE;
        }
        trial.copyFrom(now);
        return trial.ticksUntilPassed(person);
    }

    /** A number about the whole bank, or BAD_VALUE. */
    public int count(int what) {
        switch (what) {
            case 0:
                return now.time;
            case 1:
                return now.gateCount;
            case 2:
                return now.personCount;
            case 3:
                return now.peopleWhoAre(INSIDE) + now.peopleWhoAre(WAITING_OUT);
            case 4:
                return now.peopleWhoAre(WAITING_IN);
            case 5:
                return now.peopleWhoAre(IN_GATE);
            case 6:
                return now.peopleWhoAre(GONE);
            case 7:
                return now.allRefusals();
            case 8:
                return now.allFares();
            case 9:
                return now.fare;
            case 10:
                return now.busiestGate();
            case 11:
                return history.length;
            case 12:
                return orders.length;
            default:
                return BAD_VALUE;
        }
    }

    // ---- within

    private int recorded(int answer) {
        if (answer >= 0) {
            history.keep();
        }
        return answer;
    }

    private int carryOut() {
        switch (orders.kind) {
            case 'i':
                return now.comeIn(orders.gate, orders.number, orders.slow);
            case 'o':
                return now.goOut(orders.gate, orders.number);
            case 't':
                return now.letTicksGo(orders.number);
            default:
                return now.tellPinch(orders.gate);
        }
    }

    private static boolean isError(int answer) {
        return answer < 0 && answer != NONE;
    }

    private static boolean isBetween(int least, int value, int most) {
        return least <= value && value <= most;
    }

    /** Everything but the text and the history. */
    private static final class State {
        final Gate[] gates = new Gate[MOST_GATES];
        final Person[] people = new Person[MOST_PEOPLE];
        final Pool[] pools = new Pool[MOST_POOLS];
        final Pass[] passes = new Pass[MOST_PASSES];
        final Events events = new Events();
        int gateCount;
        int personCount;
        int poolCount;
        int passCount;
        int time;
        int fare = FIRST_FARE;

        State() {
            for (int i = 0; i < gates.length; i++) {
                gates[i] = new Gate();
            }
            for (int i = 0; i < people.length; i++) {
                people[i] = new Person();
            }
            for (int i = 0; i < pools.length; i++) {
                pools[i] = new Pool();
            }
            for (int i = 0; i < passes.length; i++) {
                passes[i] = new Pass();
            }
        }

        // Rows beyond the counts are not copied: who is added is set up whole.
        void copyFrom(State other) {
            gateCount = other.gateCount;
            for (int i = 0; i < gateCount && i < gates.length; i++) {
                gates[i].copyFrom(other.gates[i]);
            }
            personCount = other.personCount;
            for (int i = 0; i < personCount && i < people.length; i++) {
                people[i].copyFrom(other.people[i]);
            }
            poolCount = other.poolCount;
            for (int i = 0; i < poolCount && i < pools.length; i++) {
                pools[i].copyFrom(other.pools[i]);
            }
            passCount = other.passCount;
            for (int i = 0; i < passCount && i < passes.length; i++) {
                passes[i].copyFrom(other.passes[i]);
            }
            events.copyFrom(other.events);
            time = other.time;
            fare = other.fare;
        }

        // ---- who is there: null for a number that there is not

        Gate gateAt(int gate) {
            return gate >= 0 && gate < gateCount && gate < gates.length ? gates[gate] : null;
        }

        Person personAt(int person) {
            return person >= 0 && person < personCount && person < people.length
                    ? people[person] : null;
        }

        Pool poolAt(int pool) {
            return pool >= 0 && pool < poolCount && pool < pools.length ? pools[pool] : null;
        }

        Pass passAt(int pass) {
            return pass >= 0 && pass < passCount && pass < passes.length ? passes[pass] : null;
        }

        // ---- gates, pools, passes

        int newGate(int direction, int opening, int hold, int closing) {
            if (!isBetween(BOTH_WAYS, direction, OUT_ONLY) || !isBetween(1, opening, MOST_OPENING)
                    || !isBetween(1, hold, MOST_HOLD) || !isBetween(1, closing, MOST_CLOSING)) {
                return BAD_VALUE;
            }
            if (gateCount >= gates.length) {
                return FULL;
            }
            gates[gateCount].setUp(direction, opening, hold, closing);
            gateCount++;
            return gateCount - 1;
        }

        int turnGate(int gate, int direction) {
            Gate turned = gateAt(gate);
            if (turned == null) {
                return UNKNOWN;
            }
            if (!isBetween(BOTH_WAYS, direction, OUT_ONLY)) {
                return BAD_VALUE;
            }
            int previous = turned.direction;
            turned.direction = direction;
            return previous;
        }

        int newPool(int limit) {
            if (!isBetween(1, limit, MOST_LIMIT)) {
                return BAD_VALUE;
            }
            if (poolCount >= pools.length) {
                return FULL;
            }
            pools[poolCount].setUp(limit);
            poolCount++;
            return poolCount - 1;
        }

        int addCredit(int pool, int amount) {
            Pool credited = poolAt(pool);
            if (credited == null) {
                return UNKNOWN;
            }
            if (!isBetween(1, amount, MOST_AMOUNT)) {
                return BAD_VALUE;
            }
            if (credited.credit + amount > MOST_CREDIT) {
                return NOT_POSSIBLE;
            }
            credited.credit += amount;
            return credited.credit;
        }

        int newPass(int pool) {
            Pool owner = poolAt(pool);
            if (owner == null) {
                return UNKNOWN;
            }
            if (passCount >= passes.length) {
                return FULL;
            }
            passes[passCount].setUp(pool);
            owner.passes++;
            passCount++;
            return passCount - 1;
        }

        int markPass(int pass, boolean blocked) {
            Pass marked = passAt(pass);
            if (marked == null) {
                return UNKNOWN;
            }
            if (marked.blocked == blocked) {
                return NONE;
            }
            marked.blocked = blocked;
            int allBlocked = 0;
            for (int i = 0; i < passCount && i < passes.length; i++) {
                if (passes[i].blocked) {
                    allBlocked++;
                }
            }
            return allBlocked;
        }

        int changeFare(int fareThen) {
            if (!isBetween(0, fareThen, MOST_FARE)) {
                return BAD_VALUE;
            }
            int previous = fare;
            fare = fareThen;
            return previous;
        }

        // ---- people

        int comeIn(int gate, int pass, boolean slow) {
            Gate chosen = gateAt(gate);
            if (chosen == null || (pass != NO_PASS && passAt(pass) == null)) {
                return UNKNOWN;
            }
            if (personCount >= people.length) {
                return FULL;
            }
            people[personCount].setUp(pass == NO_PASS ? NONE : pass, slow);
            people[personCount].waitAt(gate, WAITING_IN, time);
            chosen.outer.append(personCount);
            personCount++;
            return personCount - 1;
        }

        int goOut(int gate, int person) {
            Gate chosen = gateAt(gate);
            Person leaving = personAt(person);
            if (chosen == null || leaving == null) {
                return UNKNOWN;
            }
            if (leaving.where != INSIDE) {
                return NOT_POSSIBLE;
            }
            leaving.waitAt(gate, WAITING_OUT, time);
            chosen.inner.append(person);
            return chosen.inner.length;
        }

        int moveQueues(int gate, int other) {
            Gate from = gateAt(gate);
            Gate to = gateAt(other);
            if (from == null || to == null) {
                return UNKNOWN;
            }
            if (gate == other) {
                return BAD_VALUE;
            }
            int moved = from.queuesTogether();
            if (moved == 0) {
                return NONE;
            }
            moveQueue(from.outer, to.outer, other);
            moveQueue(from.inner, to.inner, other);
            return moved;
        }

        void moveQueue(Queue from, Queue to, int gateThen) {
            for (int i = 0; i < from.length; i++) {
                int person = from.personAtPlace(i);
                Person moved = personAt(person);
                if (moved != null) {
                    // Only the gate changes: the wait goes on from where it began.
                    moved.gate = gateThen;
                    to.append(person);
                }
            }
            from.length = 0;
        }

        int tellPinch(int gate) {
            Gate told = gateAt(gate);
            if (told == null) {
                return UNKNOWN;
            }
            if (told.state == OUT_OF_ORDER) {
                return NOT_POSSIBLE;
            }
            if (told.pinchTold) {
                return NONE;
            }
            told.pinchTold = true;
            return told.state == CLOSING ? 1 : 0;
        }

        int putOutOfOrder(int gate) {
            Gate failing = gateAt(gate);
            if (failing == null) {
                return UNKNOWN;
            }
            if (failing.state == OUT_OF_ORDER) {
                return NOT_POSSIBLE;
            }
            int person = failing.person;
            breakDown(gate, failing);
            letThrough(gate, failing);
            return person;
        }

        int putInOrder(int gate) {
            Gate repaired = gateAt(gate);
            if (repaired == null) {
                return UNKNOWN;
            }
            if (repaired.state != OUT_OF_ORDER) {
                return NOT_POSSIBLE;
            }
            repaired.turnTo(CLOSED, 0);
            repaired.pinchTold = false;
            events.add(time, gate, NONE, EVENT_REPAIRED);
            return repaired.queuesTogether();
        }

        // ---- ticks: the steps answer how many people became inside or gone in them

        int letTicksGo(int ticks) {
            if (!isBetween(1, ticks, MOST_TICKS)) {
                return BAD_VALUE;
            }
            int passed = 0;
            for (int i = 0; i < ticks; i++) {
                for (int gate = 0; gate < gateCount && gate < gates.length; gate++) {
                    passed += stepGate(gate, gates[gate]);
                }
                time++;
            }
            return passed;
        }

        int ticksUntilPassed(int person) {
            Person awaited = personAt(person);
            for (int ticks = 1; awaited != null && ticks <= TICKS_FORESEEN; ticks++) {
                letTicksGo(1);
                if (awaited.where == INSIDE || awaited.where == GONE) {
                    return ticks;
                }
                if (awaited.where == OUTSIDE) {
                    return NONE;
                }
            }
            return NONE;
        }

        int stepGate(int number, Gate gate) {
            if (gate.state == CLOSED) {
                takeNext(number, gate);
                return 0;
            }
            if (gate.state == OUT_OF_ORDER) {
                return 0;
            }
            gate.left--;
            if (gate.state == CLOSING) {
                stepClosing(number, gate);
                return gate.holdsPerson() ? 0 : letThrough(number, gate);
            }
            if (gate.left == 0) {
                if (gate.state == OPEN) {
                    gate.turnTo(CLOSING, gate.closing);
                } else {
                    gate.turnTo(OPEN, gate.hold + extraTicks(gate.person));
                }
            }
            return 0;
        }

        int extraTicks(int person) {
            Person within = personAt(person);
            return within != null && within.slow ? TICKS_MORE_IF_SLOW : 0;
        }

        void stepClosing(int number, Gate gate) {
            if (gate.pinchTold) {
                gate.pinchTold = false;
                gate.pinches++;
                gate.pinchesOfPerson++;
                events.add(time, number, gate.person, EVENT_PINCHED);
                if (gate.pinchesOfPerson >= PINCHES_TO_BREAK) {
                    breakDown(number, gate);
                } else {
                    gate.turnTo(REVERSING, gate.closing - gate.left);
                }
            } else if (gate.left == 0) {
                gate.turnTo(CLOSED, 0);
            }
        }

        void breakDown(int number, Gate gate) {
            gate.turnTo(OUT_OF_ORDER, 0);
            gate.pinchTold = false;
            events.add(time, number, NONE, EVENT_OUT_OF_ORDER);
        }

        int letThrough(int number, Gate gate) {
            int person = gate.person;
            Person passing = personAt(person);
            if (passing == null) {
                return 0;
            }
            gate.person = NONE;
            passing.gate = NONE;
            if (passing.wantsOut) {
                gate.passedOut++;
                passing.where = GONE;
                freePass(passAt(passing.pass));
                events.add(time, number, person, EVENT_GONE);
            } else {
                gate.passedIn++;
                passing.where = INSIDE;
                events.add(time, number, person, EVENT_INSIDE);
            }
            return 1;
        }

        void freePass(Pass pass) {
            if (pass == null) {
                return;
            }
            pass.user = NONE;
            Pool pool = poolAt(pass.pool);
            if (pool != null) {
                pool.inside--;
            }
        }

        void takeNext(int number, Gate gate) {
            Queue queue = nextQueue(gate);
            int person = queue.personAtPlace(0);
            Person next = personAt(person);
            if (next == null) {
                return;
            }
            queue.dropFirst();
            if (!next.wantsOut) {
                int reason = reasonToRefuse(next);
                if (reason != NOT_REFUSED) {
                    gate.refused++;
                    next.turnAway(reason);
                    events.add(time, number, person, EVENT_REFUSED);
                    return;
                }
                payFare(person, passAt(next.pass));
                events.add(time, number, person, EVENT_LET_IN);
            }
            next.where = IN_GATE;
            gate.person = person;
            gate.pinchesOfPerson = 0;
            gate.turnTo(OPENING, gate.opening);
        }

        Queue nextQueue(Gate gate) {
            if (gate.direction == IN_ONLY) {
                return gate.outer;
            }
            if (gate.direction == OUT_ONLY) {
                return gate.inner;
            }
            Person firstOutside = personAt(gate.outer.personAtPlace(0));
            Person firstInside = personAt(gate.inner.personAtPlace(0));
            if (firstOutside == null) {
                return gate.inner;
            }
            if (firstInside == null || firstOutside.waitingSince < firstInside.waitingSince) {
                return gate.outer;
            }
            return gate.inner;
        }

        int reasonToRefuse(Person person) {
            Pass pass = passAt(person.pass);
            Pool pool = pass == null ? null : poolAt(pass.pool);
            if (pass == null || pool == null) {
                return WITHOUT_PASS;
            }
            if (pass.blocked) {
                return PASS_BLOCKED;
            }
            if (pass.user != NONE) {
                return PASS_IN_USE;
            }
            if (pool.inside >= pool.limit) {
                return POOL_AT_LIMIT;
            }
            return pool.credit < fare ? CREDIT_TOO_LOW : NOT_REFUSED;
        }

        void payFare(int person, Pass pass) {
            Pool pool = pass == null ? null : poolAt(pass.pool);
            if (pass == null || pool == null) {
                return;
            }
            pass.user = person;
            pool.inside++;
            pool.credit -= fare;
            pool.paid += fare;
        }

        // ---- what is told

        int peopleWhoAre(int where) {
            int found = 0;
            for (int i = 0; i < personCount && i < people.length; i++) {
                if (people[i].where == where) {
                    found++;
                }
            }
            return found;
        }

        int allRefusals() {
            int refusals = 0;
            for (int i = 0; i < gateCount && i < gates.length; i++) {
                refusals += gates[i].refused;
            }
            return refusals;
        }

        int allFares() {
            int fares = 0;
            for (int i = 0; i < poolCount && i < pools.length; i++) {
                fares += pools[i].paid;
            }
            return fares;
        }

        int busiestGate() {
            int busiest = NONE;
            int longest = -1;
            for (int i = 0; i < gateCount && i < gates.length; i++) {
                if (gates[i].queuesTogether() > longest) {
                    busiest = i;
                    longest = gates[i].queuesTogether();
                }
            }
            return busiest;
        }
    }

    private static final class Gate {
        final Queue outer = new Queue();
        final Queue inner = new Queue();
        int direction;
        int opening;
        int hold;
        int closing;
        int state;
        int left;
        int person = NONE;
        boolean pinchTold;
        int pinchesOfPerson;
        int passedIn;
        int passedOut;
        int refused;
        int pinches;

        void setUp(int directionThen, int openingThen, int holdThen, int closingThen) {
            outer.length = 0;
            inner.length = 0;
            direction = directionThen;
            opening = openingThen;
            hold = holdThen;
            closing = closingThen;
            state = CLOSED;
            left = 0;
            person = NONE;
            pinchTold = false;
            pinchesOfPerson = 0;
            passedIn = 0;
            passedOut = 0;
            refused = 0;
            pinches = 0;
        }

        void copyFrom(Gate other) {
            outer.copyFrom(other.outer);
            inner.copyFrom(other.inner);
            direction = other.direction;
            opening = other.opening;
            hold = other.hold;
            closing = other.closing;
            state = other.state;
            left = other.left;
            person = other.person;
            pinchTold = other.pinchTold;
            pinchesOfPerson = other.pinchesOfPerson;
            passedIn = other.passedIn;
            passedOut = other.passedOut;
            refused = other.refused;
            pinches = other.pinches;
        }

        void turnTo(int stateThen, int ticks) {
            state = stateThen;
            left = ticks;
        }

        boolean holdsPerson() {
            return state != CLOSED && state != OUT_OF_ORDER;
        }

        int queuesTogether() {
            return outer.length + inner.length;
        }
    }

    private static final class Queue {
        final int[] people = new int[MOST_PEOPLE];
        int length;

        void copyFrom(Queue other) {
            length = Math.min(other.length, people.length);
            System.arraycopy(other.people, 0, people, 0, length);
        }

        int personAtPlace(int place) {
            return place >= 0 && place < length && place < people.length ? people[place] : NONE;
        }

        void append(int person) {
            if (length >= 0 && length < people.length) {
                people[length] = person;
                length++;
            }
        }

        void dropFirst() {
            if (length > 0 && length <= people.length) {
                length--;
                System.arraycopy(people, 1, people, 0, length);
            }
        }
    }

    private static final class Person {
        int pass;
        boolean slow;
        int where;
        int gate;
        int refusal;
        int waitingSince;
        boolean wantsOut;

        void setUp(int passThen, boolean slowThen) {
            pass = passThen;
            slow = slowThen;
            refusal = NOT_REFUSED;
        }

        void copyFrom(Person other) {
            pass = other.pass;
            slow = other.slow;
            where = other.where;
            gate = other.gate;
            refusal = other.refusal;
            waitingSince = other.waitingSince;
            wantsOut = other.wantsOut;
        }

        void waitAt(int gateThen, int whereThen, int time) {
            gate = gateThen;
            where = whereThen;
            waitingSince = time;
            wantsOut = whereThen == WAITING_OUT;
        }

        void turnAway(int reason) {
            where = OUTSIDE;
            gate = NONE;
            refusal = reason;
        }

        boolean isWaiting() {
            return where == WAITING_IN || where == WAITING_OUT;
        }
    }

    private static final class Pool {
        int credit;
        int limit;
        int inside;
        int passes;
        int paid;

        void setUp(int limitThen) {
            credit = 0;
            limit = limitThen;
            inside = 0;
            passes = 0;
            paid = 0;
        }

        void copyFrom(Pool other) {
            credit = other.credit;
            limit = other.limit;
            inside = other.inside;
            passes = other.passes;
            paid = other.paid;
        }
    }

    private static final class Pass {
        int pool;
        boolean blocked;
        int user = NONE;

        void setUp(int poolThen) {
            pool = poolThen;
            blocked = false;
            user = NONE;
        }

        void copyFrom(Pass other) {
            pool = other.pool;
            blocked = other.blocked;
            user = other.user;
        }
    }

    /** The latest events, in rings. */
    private static final class Events {
        final int[] ticks = new int[MOST_EVENTS];
        final int[] gates = new int[MOST_EVENTS];
        final int[] people = new int[MOST_EVENTS];
        final int[] kinds = new int[MOST_EVENTS];
        int length;
        int next;

        void copyFrom(Events other) {
            System.arraycopy(other.ticks, 0, ticks, 0, MOST_EVENTS);
            System.arraycopy(other.gates, 0, gates, 0, MOST_EVENTS);
            System.arraycopy(other.people, 0, people, 0, MOST_EVENTS);
            System.arraycopy(other.kinds, 0, kinds, 0, MOST_EVENTS);
            length = other.length;
            next = other.next;
        }

        void add(int tick, int gate, int person, int kind) {
            int row = Math.floorMod(next, MOST_EVENTS);
            ticks[row] = tick;
            gates[row] = gate;
            people[row] = person;
            kinds[row] = kind;
            next = Math.floorMod(row + 1, MOST_EVENTS);
            length = Math.min(length + 1, MOST_EVENTS);
        }

        int property(int event, int what) {
            if (event < 0 || event >= length) {
                return NONE;
            }
            int row = Math.floorMod(next - 1 - event, MOST_EVENTS);
            switch (what) {
                case 0:
                    return ticks[row];
                case 1:
                    return gates[row];
                case 2:
                    return people[row];
                default:
                    return kinds[row];
            }
        }
    }

    /** The states that undo() restores, and one more that is being prepared. */
    private static final class History {
        final State[] states = new State[MOST_STATES + 1];
        int oldest;
        int length;

        History() {
            for (int i = 0; i < states.length; i++) {
                states[i] = new State();
            }
        }

        // An act checks and changes in one go, so the state before it is copied ahead of it, and
        // kept only if the act stands.
        void prepare(State now) {
            states[rowOf(length)].copyFrom(now);
        }

        void keep() {
            if (length < MOST_STATES) {
                length++;
            } else {
                oldest = rowOf(1);
            }
        }

        State takeLatest() {
            length = Math.max(length - 1, 0);
            return states[rowOf(length)];
        }

        int rowOf(int age) {
            return Math.floorMod(oldest + age, MOST_STATES + 1);
        }
    }

    /** The text, and the order of it that was read last. */
    private static final class Orders {
        final char[] letters = new char[MOST_TEXT];
        int length;
        int place;
        int kind;
        int gate;
        int number;
        boolean slow;

        int append(char letter) {
            if (length < 0 || length >= letters.length) {
                return FULL;
            }
            letters[length] = letter;
            length++;
            return length;
        }

        int erase() {
            int before = length;
            length = 0;
            return before;
        }

        void restart() {
            place = 0;
        }

        int findFault(int gateCount) {
            restart();
            for (int i = 0; i < MOST_TEXT; i++) {
                if (!readOrder(gateCount)) {
                    return place;
                }
                if (place >= length) {
                    return NO_FAULT;
                }
            }
            return NO_FAULT;
        }

        // Where it answers false, the place is that of the fault.
        boolean readOrder(int gateCount) {
            kind = letterHere();
            if (kind != 'i' && kind != 'o' && kind != 't' && kind != 'x') {
                return false;
            }
            place++;
            if (kind == 't') {
                return readNumber(1);
            }
            if (!readGate(gateCount)) {
                return false;
            }
            if (kind == 'i') {
                return readPassAndPace();
            }
            return kind == 'x' || (skip('n') && readNumber(0));
        }

        boolean readGate(int gateCount) {
            gate = letterHere() - '0';
            if (gate < 0 || gate > 9 || gate >= gateCount) {
                return false;
            }
            place++;
            return true;
        }

        boolean readPassAndPace() {
            number = NO_PASS;
            if (skip('p') && !readNumber(0)) {
                return false;
            }
            slow = skip('s');
            return true;
        }

        boolean readNumber(int least) {
            int first = letterHere() - '0';
            if (first < least || first > 9) {
                return false;
            }
            place++;
            number = first;
            int second = letterHere() - '0';
            if (first > 0 && second >= 0 && second <= 9) {
                place++;
                number = 10 * first + second;
            }
            return true;
        }

        boolean skip(char letter) {
            if (letterHere() != letter) {
                return false;
            }
            place++;
            return true;
        }

        int letterHere() {
            return place >= 0 && place < length && place < letters.length ? letters[place] : -1;
        }
    }
}
