import java.io.IOException;
import java.nio.charset.StandardCharsets;
import java.nio.file.Files;
import java.nio.file.Path;
import java.util.List;
import java.util.regex.Matcher;
import java.util.regex.Pattern;

/** What of ../shared/LANGUAGE.md the text of the class shows; run in the project's folder. */
public final class LanguageTest {
    private static final List<String> RULED_OUT = List.of("import", "package", "throw", "throws",
        "try", "catch", "finally", "synchronized", "assert", "protected", "transient", "volatile",
        "native", "yield", "var", "Object", "Thread", "Random", "System\\s*\\.\\s*(?!arraycopy\\b)",
        "\\w+Exact", "equals", "hashCode", "toString", "->", "::", "@");
    private static final int LONGEST_METHOD = 60;
    private static final int MOST_CLASSES = 12;
    private static final int MOST_PARAMETERS = 7;

    public static void main(String[] arguments) throws IOException {
        Path file = Path.of("src/main/java/TurnstileBank.java");
        String source = Files.readString(file, StandardCharsets.UTF_8);
        for (int i = 0; i < source.length(); i++) {
            if (source.charAt(i) > 126) {
                Check.due("sign at " + i, source.charAt(i), 126);
            }
        }
        String code = source.replaceAll("(?s)/\\*.*?\\*/", "").replaceAll("//[^\n]*", "");
        for (String word : RULED_OUT) {
            Matcher found = Pattern.compile(Character.isLetter(word.charAt(0))
                    ? "\\b" + word + "\\b" : word).matcher(code);
            Check.due("'" + word + "' is ruled out", !found.find());
        }
        Check.due("classes", Pattern.compile("\\bclass\\b").matcher(code).results().count()
                <= MOST_CLASSES);
        methods(source.split("\n"));
        Check.end("LanguageTest");
    }

    private static void methods(String[] lines) {
        Pattern head = Pattern.compile("^(    |        )(?:(?:public|private|static|final) )*"
                + "(?!class)\\w+(?:\\[\\])? \\w+\\(([^)]*)\\)? ?\\{?$");
        for (int i = 0; i < lines.length; i++) {
            Matcher found = head.matcher(lines[i]);
            if (!found.find()) {
                continue;
            }
            int end = i;
            while (end < lines.length && !lines[end].equals(found.group(1) + "}")) {
                end++;
            }
            Check.due("method of line " + (i + 1) + " is short", end - i < LONGEST_METHOD);
            Check.due("parameters in line " + (i + 1),
                    found.group(2).split(",").length <= MOST_PARAMETERS);
        }
    }
}
