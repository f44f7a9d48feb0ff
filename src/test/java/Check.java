/** What the tests share: it compares answers, and tells at the end whether all were due. */
final class Check {
    private static int wrong = 0;
    private static int compared = 0;

    private Check() {
    }

    static void due(String call, long got, long want) {
        compared++;
        if (got != want) {
            wrong++;
            System.out.println(call + " answered " + got + ", due is " + want);
        }
    }

    static void due(String call, boolean holds) {
        due(call, holds ? 1 : 0, 1);
    }

    /** Types a text behind what is typed already. */
    static void type(TurnstileBank bank, String text) {
        for (int i = 0; i < text.length(); i++) {
            bank.type(text.charAt(i));
        }
    }

    /** Types a text in place of what is typed already, and carries it out. */
    static int runText(TurnstileBank bank, String text) {
        bank.clearText();
        type(bank, text);
        return bank.run();
    }

    /** A bank with one gate (both ways; 1, 1, 1), and a pool of 40 with 1000 and 12 passes. */
    static TurnstileBank oneGate() {
        TurnstileBank bank = new TurnstileBank();
        bank.addGate(0, 1, 1, 1);
        bank.addPool(40);
        bank.credit(0, 1000);
        for (int i = 0; i < 12; i++) {
            bank.addPass(0);
        }
        return bank;
    }

    /** The states in the history, of which one is undone first: a fifth one would not be seen. */
    static int statesWithRoom(TurnstileBank bank) {
        bank.setFare(bank.count(9));
        bank.undo();
        return bank.count(11);
    }

    static void end(String test) {
        System.out.println(test + ": " + compared + " answers, " + wrong + " not as due");
        if (wrong != 0 || compared == 0) {
            System.exit(1);
        }
    }
}
