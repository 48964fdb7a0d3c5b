import java.io.IOException;
import java.nio.file.Files;
import java.nio.file.Path;
import java.util.List;
import java.util.regex.Matcher;
import java.util.regex.Pattern;
import java.util.stream.Collectors;
import java.util.stream.Stream;

/**
 * Every sentence of the document's Terms and Promises has a test of its own: it stands, word for word, in a
 * call of Kit.sentence; and what stands there is in the document.
 */
public final class SentencesTest {
    private static final Path DOCUMENT = Path.of("../shared/DOC.md");
    private static final Path TESTS = Path.of("src/test/java");
    private static final Pattern QUOTED = Pattern.compile("Kit\\.sentence\\(((?:\"[^\"]*\"[\\s+]*)+)\\)");
    private static final Pattern LITERAL = Pattern.compile("\"([^\"]*)\"");
    /** What is no sentence: heads, and the signs between sentences. */
    private static final Pattern BETWEEN = Pattern.compile("(THE CITY:|Of each:|==== \\d\\.|[:;,.]|\\s)*");

    public static void main(String[] args) throws IOException {
        String whole = Files.readString(DOCUMENT).replaceAll("\\s+", " ");
        String left = promised();
        for (String sentence : quoted()) {
            Kit.same("in the document: " + sentence, true, whole.contains(sentence));
            left = left.replace(sentence, "\n");
        }
        for (String rest : left.split("\n")) {
            Kit.same("without a test: " + rest, true, BETWEEN.matcher(rest).matches());
        }
        Kit.finish("SentencesTest");
    }

    /** Terms and Promises without heads, faces and fences, on one line. */
    private static String promised() throws IOException {
        List<String> lines = Files.readAllLines(DOCUMENT);
        StringBuilder text = new StringBuilder();
        for (String line : lines.subList(lines.indexOf("## Terms"), lines.indexOf("## Not promised"))) {
            if (!line.startsWith("## ") && !line.startsWith("```")) {
                text.append(line.replaceFirst("^`[^`]*`: ", "")).append(' ');
            }
        }
        return text.toString().replaceAll("\\s+", " ");
    }

    private static List<String> quoted() throws IOException {
        StringBuilder tests = new StringBuilder();
        try (Stream<Path> files = Files.list(TESTS)) {
            for (Path file : files.sorted().collect(Collectors.toList())) {
                tests.append(Files.readString(file));
            }
        }
        return QUOTED.matcher(tests).results().map(m -> joined(m.group(1)))
                .sorted((a, b) -> Integer.compare(b.length(), a.length())).collect(Collectors.toList());
    }

    private static String joined(String literals) {
        StringBuilder all = new StringBuilder();
        Matcher part = LITERAL.matcher(literals);
        while (part.find()) {
            all.append(part.group(1));
        }
        return all.toString();
    }
}
