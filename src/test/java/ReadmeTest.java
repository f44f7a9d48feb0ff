import java.io.IOException;
import java.nio.charset.StandardCharsets;
import java.nio.file.Files;
import java.nio.file.Path;

/** The example of README.md: each call answers what stands behind it. Run in the project's folder. */
public final class ReadmeTest {
    private final String readme;
    private int calls = 0;

    private ReadmeTest() throws IOException {
        readme = Files.readString(Path.of("README.md"), StandardCharsets.UTF_8)
                .replaceAll(" +", " ");
    }

    public static void main(String[] arguments) throws IOException {
        new ReadmeTest().example(new TurnstileBank());
        Check.end("ReadmeTest");
    }

    private void told(String call, int got) {
        calls++;
        Check.due("README.md tells " + call + " // " + got,
                readme.matches("(?s).*\nbank\\.\\Q" + call + "\\E; // " + got + "\\b.*"));
    }

    private void example(TurnstileBank bank) {
        told("addGate(0, 1, 2, 2)", bank.addGate(0, 1, 2, 2));
        told("addPool(2)", bank.addPool(2));
        told("credit(0, 25)", bank.credit(0, 25));
        told("addPass(0)", bank.addPass(0));
        told("enter(0, 0, false)", bank.enter(0, 0, false));
        told("passesIn(0)", bank.passesIn(0));
        told("pass(6)", bank.pass(6));
        told("person(0, 0)", bank.person(0, 0));
        told("pool(0, 0)", bank.pool(0, 0));
        told("event(0, 3)", bank.event(0, 3));
        told("undo()", bank.undo());
        told("person(0, 0)", bank.person(0, 0));
        told("exit(0, 0)", bank.exit(0, 0));
        Check.type(bank, "t6o0n0t9");
        Check.due("README.md types it", readme.contains("\"t6o0n0t9\""));
        told("run()", bank.run());
        told("person(0, 0)", bank.person(0, 0));
        told("clearText()", bank.clearText());
        told("run()", bank.run());
        Check.due("calls of the example", readme.split("; // ").length - 1, calls);
    }
}
