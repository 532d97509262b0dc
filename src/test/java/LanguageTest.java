import java.io.IOException;
import java.io.UncheckedIOException;
import java.nio.file.Files;
import java.nio.file.Path;
import java.util.List;
import java.util.regex.Matcher;
import java.util.regex.Pattern;

/** What of LANGUAGE.md can be seen from the text of the class: words that it must not have, and lengths. */
public final class LanguageTest {
    private static final Check c = new Check("language");
    private static final Path MAIN = Path.of("src/main/java/GuildPiece.java");

    public static void main(String[] args) throws IOException {
        String source = source();
        String code = source.replaceAll("(?s)/\\*.*?\\*/", "").replaceAll("//[^\n]*", "");
        c.holds("the text is of signs 1 to 127", source.chars().allMatch(sign -> sign > 0 && sign < 128));
        String[] never = {"throw", "throws", "try", "catch", "finally", "synchronized", "assert", "package", "import",
            "Object", "hashCode", "toString", "System\\.(?!arraycopy)", "Thread", "Random", "\\w+Exact", "NaN",
            "protected", "volatile", "transient", "native", "double", "float", "var"};
        for (String word : never) {
            c.holds("no " + word, !Pattern.compile("\\b" + word + "\\b").matcher(code).find());
        }
        c.holds("no lambda", !code.contains("->"));
        c.holds("no method reference", !code.contains("::"));
        c.holds("no text", !code.contains("\""));
        c.due("one public class", count("public (final )?class", code), 1);
        parameters(code);
        lengths(Files.readAllLines(MAIN));
        c.end();
    }

    /** The text of the class. */
    static String source() {
        try {
            return Files.readString(MAIN);
        } catch (IOException e) {
            throw new UncheckedIOException(e);
        }
    }

    private static int count(String pattern, String code) {
        Matcher found = Pattern.compile(pattern).matcher(code);
        int many = 0;
        while (found.find()) {
            many++;
        }
        return many;
    }

    private static void parameters(String code) {
        Matcher head = Pattern.compile("(?:public|private)[\\w\\[\\] ]* (\\w+)\\(([^)]*)\\) \\{").matcher(code);
        int many = 0;
        while (head.find()) {
            many++;
            c.holds(head.group(1) + " has seven parameters at most", head.group(2).split(",").length <= 7);
        }
        c.holds("methods were found", many > 36);
    }

    private static void lengths(List<String> lines) {
        int begun = -1;
        for (int i = 0; i < lines.size(); i++) {
            String line = lines.get(i);
            if (line.matches(" {4}( {4})?(public|private) .*\\) \\{")) {
                begun = i;
            } else if (begun >= 0 && line.matches(" {4}( {4})?\\}")
                && line.indexOf('}') == lines.get(begun).indexOf('p')) {
                c.holds("a short method: " + lines.get(begun).trim(), i - begun < 60);
                begun = -1;
            }
        }
    }
}
