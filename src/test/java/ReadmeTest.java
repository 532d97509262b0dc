import java.io.IOException;
import java.nio.charset.StandardCharsets;
import java.nio.file.Files;
import java.nio.file.Path;
import java.util.ArrayList;
import java.util.Comparator;
import java.util.List;
import java.util.concurrent.TimeUnit;
import java.util.regex.Matcher;
import java.util.regex.Pattern;

/** README.md: its examples compile as they stand and answer as they say, its commands work. */
public final class ReadmeTest {
    private static final Check c = new Check("readme");
    private static final Pattern ANSWERED = Pattern.compile("^(x\\.\\w+\\([^;]*\\));\\s*// (\\S+?)[:,]? .*$");
    private static final Pattern NUMBER = Pattern.compile("-?\\d+|NONE|BAD|STATE|FULL");

    public static void main(String[] args) throws IOException, InterruptedException {
        String page = Files.readString(Path.of("README.md"));
        Path room = Files.createTempDirectory("readme");
        examples(blocks(page, "java"), room);
        commands(blocks(page, "sh"), room);
        for (Path test : tests()) {
            String name = test.getFileName().toString().replace(".java", "");
            c.holds("the page names " + name, page.contains("`" + name + "`"));
        }
        empty(room);
        c.end();
    }

    private static void empty(Path room) throws IOException {
        try (var files = Files.walk(room)) {
            for (Path file : files.sorted(Comparator.reverseOrder()).toList()) {
                Files.delete(file);
            }
        }
    }

    private static List<Path> tests() throws IOException {
        try (var files = Files.list(Path.of("src/test/java"))) {
            return files.filter(file -> file.toString().endsWith("Test.java")).sorted().toList();
        }
    }

    private static List<String> blocks(String page, String language) {
        List<String> all = new ArrayList<>();
        Matcher block = Pattern.compile("(?ms)^```" + language + "\n(.*?)^```$").matcher(page);
        while (block.find()) {
            all.add(block.group(1));
        }
        return all;
    }

    /** The examples as one program, in which each call that has an answer behind it is looked at. */
    private static void examples(List<String> blocks, Path room) throws IOException, InterruptedException {
        StringBuilder lines = new StringBuilder();
        int answers = 0;
        for (String line : String.join("", blocks).split("\n")) {
            Matcher call = ANSWERED.matcher(line);
            if (call.matches()) {
                answers++;
                c.holds("an answer: " + line, NUMBER.matcher(call.group(2)).matches());
                String want = call.group(2).matches("[A-Z]+") ? "GuildPiece." + call.group(2) : call.group(2) + "L";
                lines.append("due(\"").append(call.group(1)).append("\", ").append(call.group(1)).append(", ")
                    .append(want).append(");\n");
            } else {
                c.holds("a call has its answer behind it: " + line, !line.startsWith("x."));
                lines.append(line).append("\n");
            }
        }
        c.holds("examples are many", blocks.size() >= 4 && answers > 50);
        Path source = room.resolve("ReadmeExamples.java");
        Files.writeString(source, "public final class ReadmeExamples {\n"
            + "static int wrong = 0;\n"
            + "static void due(String call, long got, long want) { if (got != want) { wrong++;\n"
            + "System.out.println(call + \" answered \" + got + \", the page says \" + want); } }\n"
            + "public static void main(String[] args) {\n" + lines + "System.exit(wrong == 0 ? 0 : 1); } }\n");
        run(room, "the examples", "javac --release 17 -encoding UTF-8 -d " + room + " src/main/java/GuildPiece.java " + source
            + " && java -cp " + room + " ReadmeExamples");
    }

    private static void commands(List<String> blocks, Path room) throws IOException, InterruptedException {
        c.holds("the page tells how to run all tests", blocks.contains(".ci/run\n"));
        c.holds("that can be run", Files.isExecutable(Path.of(".ci/run")));
        c.due("commands", blocks.size(), 3);
        for (String block : blocks) {
            // .ci/run itself runs this test: here it would never end.
            if (!block.contains(".ci/run")) {
                run(room, block, block);
            }
        }
    }

    /** What a command makes by mktemp goes to the room, which is emptied at the end. */
    private static void run(Path room, String name, String command) throws IOException, InterruptedException {
        ProcessBuilder builder = new ProcessBuilder("bash", "-c", command).redirectErrorStream(true);
        builder.environment().put("TMPDIR", room.toString());
        Process process = builder.start();
        String said = new String(process.getInputStream().readAllBytes(), StandardCharsets.UTF_8);
        boolean ended = process.waitFor(5, TimeUnit.MINUTES);
        boolean fine = ended && process.exitValue() == 0 && !said.contains("FAILED");
        c.holds(name + " said: " + (fine ? "" : said), fine);
    }
}
