/** What the tests share: it compares answers, and tells at the end whether all were due. */
final class Check {
    private static int wrong = 0;
    private static int compared = 0;

    private Check() {
    }

    static void due(String call, long got, long want) {
        compared++;
        if (got != want) {
            wrong++;
            System.out.println(call + " answered " + got + ", due is " + want);
        }
    }

    static void due(String call, boolean holds) {
        due(call, holds ? 1 : 0, 1);
    }

    /** Types a text behind what is typed already. */
    static void type(TurnstileBank bank, String text) {
        for (int i = 0; i < text.length(); i++) {
            bank.type(text.charAt(i));
        }
    }

    /** Types a text in place of what is typed already, and carries it out. */
    static int runText(TurnstileBank bank, String text) {
        bank.clearText();
        type(bank, text);
        return bank.run();
    }

    /** A bank with one gate (both ways; 1, 1, 1), and a pool of 40 with 1000 and 12 passes. */
    static TurnstileBank oneGate() {
        TurnstileBank bank = new TurnstileBank();
        bank.addGate(0, 1, 1, 1);
        bank.addPool(40);
        bank.credit(0, 1000);
        for (int i = 0; i < 12; i++) {
            bank.addPass(0);
        }
        return bank;
    }

    /** The states in the history, of which one is undone first: a fifth one would not be seen. */
    static int statesWithRoom(TurnstileBank bank) {
        bank.setFare(bank.count(9));
        bank.undo();
        return bank.count(11);
    }

    /** All that a bank tells, but for the text and the history. */
    static String told(TurnstileBank bank) {
        StringBuilder all = new StringBuilder();
        for (int what = 0; what <= 10; what++) {
            all.append(bank.count(what)).append(' ');
        }
        for (int gate = 0; gate < bank.count(1); gate++) {
            all.append("\ngate");
            for (int what = 0; what <= 10; what++) {
                all.append(' ').append(bank.gate(gate, what));
            }
            for (int end = 0; end <= 1; end++) {
                all.append(" |");
                for (int place = 0; place <= 40; place++) {
                    int person = bank.queued(gate, end, place);
                    if (person != TurnstileBank.NONE) {
                        all.append(' ').append(person);
                    }
                }
            }
        }
        for (int person = 0; person < bank.count(2); person++) {
            all.append("\nperson");
            for (int what = 0; what <= 5; what++) {
                all.append(' ').append(bank.person(person, what));
            }
            all.append(' ').append(bank.passesIn(person));
        }
        for (int pool = 0; pool < 4; pool++) {
            all.append("\npool");
            for (int what = 0; what <= 4; what++) {
                all.append(' ').append(bank.pool(pool, what));
            }
        }
        for (int pass = 0; pass < 12; pass++) {
            all.append("\npass");
            for (int what = 0; what <= 2; what++) {
                all.append(' ').append(bank.passOf(pass, what));
            }
        }
        for (int event = 0; event <= 20; event++) {
            all.append("\nevent");
            for (int what = 0; what <= 3; what++) {
                all.append(' ').append(bank.event(event, what));
            }
        }
        return all.toString();
    }

    static void end(String test) {
        System.out.println(test + ": " + compared + " answers, " + wrong + " not as due");
        if (wrong != 0 || compared == 0) {
            System.exit(1);
        }
    }
}
