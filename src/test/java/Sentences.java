import java.io.IOException;
import java.nio.file.Files;
import java.nio.file.Path;
import java.util.LinkedHashMap;
import java.util.Map;

/**
 * Tests told sentence by sentence: each begins with the words of the document that it holds the
 * class to. Words that the document does not have, words without a look, and words of the
 * document that no test began with, are all wrong.
 */
final class Sentences {
    static final int MIN = Integer.MIN_VALUE, MAX = Integer.MAX_VALUE;
    private static final Path DOCUMENT = Path.of("../shared/DOC.md");

    private static final class Section {
        final StringBuilder text = new StringBuilder();
        boolean[] told;

        void add(String line) {
            text.append(text.length() == 0 ? "" : " ").append(line.trim().replaceAll("\\s+", " "));
        }
    }

    private final Check c = new Check("bounds");
    private final Map<String, Section> sections = new LinkedHashMap<>();
    private String heading = "";
    private String words = "";
    private int many;
    private boolean looked = true;

    Sentences() throws IOException {
        Section now = null;
        for (String line : Files.readAllLines(DOCUMENT)) {
            if (line.startsWith("## ")) {
                String name = line.substring(3).replaceAll(":.*", "");
                now = name.equals("Terms") || name.startsWith("Promise ") ? section(name) : null;
            } else if (line.startsWith("======== ")) {
                now = section("Section " + line.charAt(9));
                now.add(line.substring(10));
            } else if (line.startsWith("Ahead of the calls ")) {
                section("Interface").add(line);
            } else if (now != null && !line.isBlank() && !line.startsWith("```")) {
                now.add(line.replaceFirst("^`[^`]*`: ", ""));
            }
        }
        for (Section s : sections.values()) {
            s.told = new boolean[s.text.length()];
        }
        c.due("sections of the document", sections.size(), 1 + 4 + 1 + 36);
    }

    private Section section(String name) {
        return sections.computeIfAbsent(name, any -> new Section());
    }

    void under(String name) {
        heading = name;
        c.holds("the document has " + name, sections.containsKey(name));
    }

    void promise(int number) {
        under("Promise " + number);
    }

    /** Begins a test of these words, which stand just once under the heading. */
    void says(String quote) {
        c.holds(heading + " '" + words + "' was looked at", looked);
        looked = false;
        many++;
        words = quote;
        Section s = sections.getOrDefault(heading, new Section());
        int at = s.text.indexOf(quote);
        boolean once = at >= 0 && s.text.lastIndexOf(quote) == at;
        c.holds(heading + " says '" + quote + "', once", once);
        for (int i = 0; once && i < quote.length(); i++) {
            s.told[at + i] = true;
        }
    }

    void due(String call, long got, long want) {
        looked = true;
        c.due(heading + " '" + words + "': " + call, got, want);
    }

    void holds(String what, boolean so) {
        due(what, so ? 1 : 0, 1);
    }

    /** Answers in a row, one name for all. */
    void dues(String call, long[] got, long... want) {
        due(call + ", how many", got.length, want.length);
        for (int i = 0; i < Math.min(got.length, want.length); i++) {
            due(call + ", number " + i, got[i], want[i]);
        }
    }

    void end() {
        c.holds(heading + " '" + words + "' was looked at", looked);
        for (Map.Entry<String, Section> one : sections.entrySet()) {
            StringBuilder untold = new StringBuilder();
            Section s = one.getValue();
            for (int i = 0; i < s.told.length; i++) {
                untold.append(s.told[i] ? ' ' : s.text.charAt(i));
            }
            String rest = untold.toString().replaceAll("\\s+", " ").trim();
            c.holds(one.getKey() + " is told but for: " + rest, !rest.matches(".*[A-Za-z0-9].*"));
        }
        System.out.println("bounds: " + many + " sentences of the document");
        c.end();
    }
}
