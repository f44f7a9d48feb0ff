import java.io.ByteArrayOutputStream;
import java.io.IOException;
import java.io.PrintStream;
import java.nio.charset.StandardCharsets;
import java.nio.file.Files;
import java.nio.file.Path;
import java.util.ArrayList;
import java.util.Collections;
import java.util.List;
import java.util.concurrent.ExecutorService;
import java.util.concurrent.Executors;
import java.util.concurrent.Future;
import java.util.concurrent.TimeUnit;
import java.util.stream.Stream;
import javax.tools.ToolProvider;

/**
 * Would the tests notice it if a sentence of the document were broken? breaks.txt quotes the
 * document piece by piece, in its order, and tells for each piece how to break it in the class.
 * Each broken class is compiled with the tests, one of which then has to fail. Run in the
 * project's folder; with an argument, only the breaks of pieces that contain it are tried.
 */
public final class Breaks {
    private static final Path SOURCE = Path.of("src/main/java/TurnstileBank.java");
    private static final Path TESTS = Path.of("src/test/java");
    private static final Path DOCUMENT = Path.of("../shared/DOC.md");
    private static final Path LIST = Path.of("src/test/breaks/breaks.txt");
    private static final Path BUILD = Path.of("build/breaks");
    private static final int SECONDS = 120;

    private record Edit(String from, String to) {
    }

    private record Break(int piece, String name, List<Edit> edits) {
        boolean isNothing() {
            return name.startsWith("nothing: ");
        }

        /** A change of what the document leaves free: no test may notice it. */
        boolean isFree() {
            return name.startsWith("free: ");
        }
    }

    private final List<String> pieces = new ArrayList<>();
    private final List<Break> breaks = new ArrayList<>();
    private final List<String> wrong = Collections.synchronizedList(new ArrayList<>());

    public static void main(String[] arguments) throws Exception {
        Breaks all = new Breaks();
        all.readList(Files.readAllLines(LIST, StandardCharsets.UTF_8));
        all.compareWithDocument();
        all.tryAll(arguments.length > 0 ? arguments[0] : "");
        all.wrong.forEach(System.out::println);
        long tried = all.breaks.stream().filter(one -> !one.isNothing()).count();
        System.out.println(all.pieces.size() + " pieces, " + tried + " breaks, "
                + all.wrong.size() + " wrong");
        System.exit(all.wrong.isEmpty() ? 0 : 1);
    }

    /**
     * "== piece", "-- break", then "<<<", what is replaced, ">>>", what by. "-- nothing: why" tells
     * that nothing breaks the piece, "-- free: change" that no test may notice the change.
     */
    private void readList(List<String> lines) {
        Break last = null;
        StringBuilder text = new StringBuilder();
        String from = null;
        for (String line : lines) {
            boolean ends = line.startsWith("== ") || line.startsWith("-- ") || line.equals("<<<");
            if (ends && from != null) {
                last.edits.add(new Edit(from, text.toString().stripTrailing()));
                from = null;
            }
            if (line.startsWith("== ")) {
                pieces.add(line.substring(3));
            } else if (line.startsWith("-- ")) {
                last = new Break(pieces.size() - 1, line.substring(3), new ArrayList<>());
                breaks.add(last);
            } else if (line.equals("<<<")) {
                text.setLength(0);
            } else if (line.equals(">>>")) {
                from = text.toString().stripTrailing();
                text.setLength(0);
            } else {
                text.append(line).append('\n');
            }
        }
        if (from != null) {
            last.edits.add(new Edit(from, text.toString().stripTrailing()));
        }
    }

    /** The pieces, one behind the other, are the document, but for its headings. */
    private void compareWithDocument() throws IOException {
        String document = Files.readString(DOCUMENT, StandardCharsets.UTF_8)
                .replaceAll("(?m)^#.*$", "").replaceAll("\\s+", " ").strip();
        int place = 0;
        for (String piece : pieces) {
            int found = document.indexOf(piece, place);
            if (found < 0) {
                wrong.add("not in the document, or not here: " + piece);
                continue;
            }
            if (!document.substring(place, found).isBlank()) {
                wrong.add("no piece quotes: " + document.substring(place, found).strip());
            }
            place = found + piece.length();
        }
        if (!document.substring(place).isBlank()) {
            wrong.add("no piece quotes: " + document.substring(place).strip());
        }
        for (int i = 0; i < pieces.size(); i++) {
            int piece = i;
            if (breaks.stream().noneMatch(one -> one.piece == piece)) {
                wrong.add("nothing breaks: " + pieces.get(piece));
            }
        }
    }

    private void tryAll(String asked) throws Exception {
        String source = Files.readString(SOURCE, StandardCharsets.UTF_8);
        ExecutorService workers =
                Executors.newFixedThreadPool(Runtime.getRuntime().availableProcessors());
        List<Future<?>> tried = new ArrayList<>();
        for (int i = 0; i < breaks.size(); i++) {
            Break one = breaks.get(i);
            Path folder = BUILD.resolve("" + i);
            if (!one.isNothing() && pieces.get(one.piece).contains(asked)) {
                tried.add(workers.submit(() -> {
                    tryOne(one, source, folder);
                    return null;
                }));
            }
        }
        for (Future<?> one : tried) {
            one.get();
        }
        workers.shutdown();
    }

    private void tryOne(Break one, String source, Path folder) throws Exception {
        String name = pieces.get(one.piece) + " -- " + one.name;
        String broken = source;
        for (Edit edit : one.edits) {
            int found = broken.indexOf(edit.from);
            if (edit.from.isEmpty() || found < 0 || broken.indexOf(edit.from, found + 1) >= 0) {
                wrong.add("not just once in the class: " + name + "\n" + edit.from);
                return;
            }
            broken = broken.replace(edit.from, edit.to);
        }
        if (broken.equals(source)) {
            wrong.add("changes nothing: " + name);
            return;
        }
        Files.createDirectories(folder);
        Path file = folder.resolve("TurnstileBank.java");
        Files.writeString(file, broken, StandardCharsets.UTF_8);
        String errors = compile(folder, file);
        if (!errors.isEmpty()) {
            wrong.add("does not compile: " + name + "\n" + errors);
            return;
        }
        String noticed = noticedBy(folder, one.isFree());
        if (noticed.isEmpty() != one.isFree()) {
            wrong.add((noticed.isEmpty() ? "NOT NOTICED: " : noticed + " NOTICES ") + name);
        } else {
            System.out.println(name + ": " + (one.isFree() ? "no test" : noticed));
        }
    }

    private static String compile(Path folder, Path file) throws IOException {
        List<String> arguments = new ArrayList<>(List.of("-encoding", "UTF-8", "-nowarn", "-d",
                folder.toString(), file.toString()));
        try (Stream<Path> tests = Files.list(TESTS)) {
            tests.filter(test -> test.toString().endsWith(".java"))
                    .forEach(test -> arguments.add(test.toString()));
        }
        ByteArrayOutputStream errors = new ByteArrayOutputStream();
        int code = ToolProvider.getSystemJavaCompiler().run(null, null, new PrintStream(errors),
                arguments.toArray(new String[0]));
        return code == 0 ? "" : errors.toString(StandardCharsets.UTF_8);
    }

    /** LanguageTest looks at the text alone, and RandomRunsTest would notice too much by chance. */
    private static String noticedBy(Path folder, boolean random)
            throws IOException, InterruptedException {
        List<String> names = new ArrayList<>();
        try (Stream<Path> tests = Files.list(TESTS)) {
            tests.map(test -> test.getFileName().toString()).filter(test ->
                    test.endsWith("Test.java") && !test.startsWith("Language")
                    && (random || !test.startsWith("Random"))).forEach(test ->
                    names.add(test.substring(0, test.length() - ".java".length())));
        }
        Collections.sort(names);
        for (String name : names) {
            Process test = new ProcessBuilder("java", "-XX:+UseSerialGC",
                    "-XX:TieredStopAtLevel=1", "-cp", folder.toString(), name)
                    .redirectErrorStream(true)
                    .redirectOutput(folder.resolve(name + ".txt").toFile()).start();
            if (!test.waitFor(SECONDS, TimeUnit.SECONDS)) {
                test.destroyForcibly();
                return name + " (does not end)";
            }
            if (test.exitValue() != 0) {
                return name;
            }
        }
        return "";
    }
}
