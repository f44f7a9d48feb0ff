/** The document's face: what the class and the model are called and asked by. */
interface Face {
    int addGate(int direction, int opening, int hold, int closing);

    int setDirection(int gate, int direction);

    int addPool(int limit);

    int credit(int pool, int amount);

    int addPass(int pool);

    int block(int pass, boolean blocked);

    int setFare(int fare);

    int enter(int gate, int pass, boolean slow);

    int exit(int gate, int person);

    int divert(int gate, int other);

    int pinch(int gate);

    int fail(int gate);

    int repair(int gate);

    int pass(int ticks);

    int type(char character);

    int clearText();

    int run();

    int undo();

    int gate(int gate, int what);

    int queued(int gate, int end, int place);

    int person(int person, int what);

    int pool(int pool, int what);

    int passOf(int pass, int what);

    int event(int event, int what);

    int passesIn(int person);

    int count(int what);

    /** The class, by the same face. */
    record Real(TurnstileBank bank) implements Face {
        @Override
        public int addGate(int direction, int opening, int hold, int closing) {
            return bank.addGate(direction, opening, hold, closing);
        }

        @Override
        public int setDirection(int gate, int direction) {
            return bank.setDirection(gate, direction);
        }

        @Override
        public int addPool(int limit) {
            return bank.addPool(limit);
        }

        @Override
        public int credit(int pool, int amount) {
            return bank.credit(pool, amount);
        }

        @Override
        public int addPass(int pool) {
            return bank.addPass(pool);
        }

        @Override
        public int block(int pass, boolean blocked) {
            return bank.block(pass, blocked);
        }

        @Override
        public int setFare(int fare) {
            return bank.setFare(fare);
        }

        @Override
        public int enter(int gate, int pass, boolean slow) {
            return bank.enter(gate, pass, slow);
        }

        @Override
        public int exit(int gate, int person) {
            return bank.exit(gate, person);
        }

        @Override
        public int divert(int gate, int other) {
            return bank.divert(gate, other);
        }

        @Override
        public int pinch(int gate) {
            return bank.pinch(gate);
        }

        @Override
        public int fail(int gate) {
            return bank.fail(gate);
        }

        @Override
        public int repair(int gate) {
            return bank.repair(gate);
        }

        @Override
        public int pass(int ticks) {
            return bank.pass(ticks);
        }

        @Override
        public int type(char character) {
            return bank.type(character);
        }

        @Override
        public int clearText() {
            return bank.clearText();
        }

        @Override
        public int run() {
            return bank.run();
        }

        @Override
        public int undo() {
            return bank.undo();
        }

        @Override
        public int gate(int gate, int what) {
            return bank.gate(gate, what);
        }

        @Override
        public int queued(int gate, int end, int place) {
            return bank.queued(gate, end, place);
        }

        @Override
        public int person(int person, int what) {
            return bank.person(person, what);
        }

        @Override
        public int pool(int pool, int what) {
            return bank.pool(pool, what);
        }

        @Override
        public int passOf(int pass, int what) {
            return bank.passOf(pass, what);
        }

        @Override
        public int event(int event, int what) {
            return bank.event(event, what);
        }

        @Override
        public int passesIn(int person) {
            return bank.passesIn(person);
        }

        @Override
        public int count(int what) {
            return bank.count(what);
        }
    }
}
