import java.util.function.Supplier;
import java.util.function.ToIntFunction;

/**
 * All that a bank tells. What an object answers behind its 512th call is free, so each part is
 * asked of a bank that is made anew in the same way.
 */
final class Whole {
    private static final int MOST_STATES = 4;

    private Whole() {
    }

    /** A bank that is made as told, and then has more done to it. */
    static Supplier<TurnstileBank> then(Supplier<TurnstileBank> made,
            ToIntFunction<TurnstileBank> call) {
        return () -> {
            TurnstileBank bank = made.get();
            call.applyAsInt(bank);
            return bank;
        };
    }

    static Supplier<TurnstileBank> undone(Supplier<TurnstileBank> made, int times) {
        return () -> {
            TurnstileBank bank = made.get();
            for (int i = 0; i < times; i++) {
                bank.undo();
            }
            return bank;
        };
    }

    /** All that is told but for the text and the history. */
    static String state(Supplier<TurnstileBank> made) {
        return told(() -> new Face.Real(made.get()));
    }

    /** The same, of the class or of the model. */
    static String told(Supplier<Face> made) {
        StringBuilder all = new StringBuilder();
        bankAndEvents(made.get(), all);
        gatesAndPools(made.get(), all);
        people(made.get(), all);
        return all.toString();
    }

    /** All that is told, with the text and with each state of the history. */
    static String of(Supplier<TurnstileBank> made) {
        StringBuilder all = new StringBuilder();
        TurnstileBank bank = made.get();
        all.append("states ").append(bank.count(11)).append(", undo");
        for (int i = 0; i <= MOST_STATES; i++) {
            all.append(' ').append(bank.undo());
        }
        for (int times = 0; times <= MOST_STATES; times++) {
            all.append("\n-- undone ").append(times).append('\n').append(state(undone(made, times)));
        }
        bank = made.get();
        all.append("\ntext ").append(bank.count(12)).append(", run ").append(bank.run());
        all.append(", cleared ").append(bank.clearText());
        return all.append(state(then(made, TurnstileBank::run))).toString();
    }

    /** A call that answers an error or NONE: it changes nothing at all. */
    static void refused(String call, Supplier<TurnstileBank> made,
            ToIntFunction<TurnstileBank> called, int answer) {
        Check.due(call, called.applyAsInt(made.get()), answer);
        Check.due(call + " changes nothing", of(then(made, called)).equals(of(made)));
    }

    /** A call that only tells: it changes nothing at all. */
    static void only(String call, Supplier<TurnstileBank> made,
            ToIntFunction<TurnstileBank> called, int answer) {
        refused(call, made, called, answer);
    }

    /** A call that stands: the state before it is recorded, and the oldest of five is dropped. */
    static void act(String call, Supplier<TurnstileBank> made,
            ToIntFunction<TurnstileBank> called, int answer) {
        TurnstileBank bank = made.get();
        int states = bank.count(11);
        Check.due(call, called.applyAsInt(bank), answer);
        Check.due(call + " is recorded", bank.count(11), Math.min(MOST_STATES, states + 1));
        int kept = Math.min(MOST_STATES - 1, states);
        for (int times = 0; times <= kept; times++) {
            Check.due(call + " and then " + (times + 1) + " times undo()",
                    state(undone(then(made, called), times + 1))
                            .equals(state(undone(made, times))));
        }
        bank = undone(then(made, called), kept + 1).get();
        Check.due(call + ", history used up", bank.undo(), TurnstileBank.NONE);
    }

    private static void bankAndEvents(Face bank, StringBuilder all) {
        for (int what = 0; what <= 10; what++) {
            all.append(bank.count(what)).append(' ');
        }
        for (int event = 0; event <= 20; event++) {
            all.append("\nevent");
            for (int what = 0; what <= 3; what++) {
                all.append(' ').append(bank.event(event, what));
            }
        }
    }

    private static void gatesAndPools(Face bank, StringBuilder all) {
        for (int gate = 0; gate < 8; gate++) {
            all.append("\ngate");
            for (int what = 0; what <= 10; what++) {
                all.append(' ').append(bank.gate(gate, what));
            }
            for (int end = 0; end <= 1; end++) {
                all.append(" |");
                for (int place = 0; place <= bank.gate(gate, 4 + end); place++) {
                    all.append(' ').append(bank.queued(gate, end, place));
                }
            }
        }
        for (int pool = 0; pool < 4; pool++) {
            all.append("\npool");
            for (int what = 0; what <= 4; what++) {
                all.append(' ').append(bank.pool(pool, what));
            }
        }
        for (int pass = 0; pass < 12; pass++) {
            all.append("\npass");
            for (int what = 0; what <= 2; what++) {
                all.append(' ').append(bank.passOf(pass, what));
            }
        }
    }

    private static void people(Face bank, StringBuilder all) {
        for (int person = 0; person < bank.count(2); person++) {
            all.append("\nperson");
            for (int what = 0; what <= 5; what++) {
                all.append(' ').append(bank.person(person, what));
            }
            all.append(' ').append(bank.passesIn(person));
        }
    }
}
