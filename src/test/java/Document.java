import java.io.IOException;
import java.nio.charset.StandardCharsets;
import java.nio.file.Files;
import java.nio.file.Path;
import java.util.LinkedHashMap;
import java.util.LinkedHashSet;
import java.util.Map;
import java.util.Set;
import java.util.regex.Matcher;
import java.util.regex.Pattern;

/** The sentences of ../shared/DOC.md by their sections, and which of them no test has named yet. */
final class Document {
    private static final Path FILE = Path.of("../shared/DOC.md");
    private static final Pattern TERM = Pattern.compile("[A-Z]+(, [A-Z]+)*");
    private static final Pattern PROMISE = Pattern.compile("## (Promise \\d+): .*");
    private static final Pattern SIGNATURE = Pattern.compile("`[^`]*\\)`: ");

    /** The summary, and what tells of comments in an interface, promise nothing of a call. */
    private static final Pattern NO_PROMISE = Pattern.compile("(Snoops kept off by a filter that|Ahead of the calls) .*");

    private final Map<String, Set<String>> sentences = new LinkedHashMap<>();
    private final Map<String, Set<String>> unnamed = new LinkedHashMap<>();

    static Document read() throws IOException {
        Document document = new Document();
        String section = "";
        boolean isCode = false;
        for (String line : Files.readAllLines(FILE, StandardCharsets.UTF_8)) {
            Matcher promise = PROMISE.matcher(line);
            if (line.startsWith("```")) {
                isCode = !isCode;
            } else if (promise.matches()) {
                section = promise.group(1);
            } else if (line.startsWith("## Not promised")) {
                section = "";
            } else if (line.startsWith("#")) {
                section = line.replaceAll("^#+ ", "");
            } else if (TERM.matcher(line).matches()) {
                section = line;
            } else if (!isCode) {
                document.add(section, line);
            }
        }
        document.sentences.keySet().removeIf(String::isEmpty);
        document.sentences.forEach((each, all) -> document.unnamed.put(each, new LinkedHashSet<>(all)));
        return document;
    }

    private void add(String section, String line) {
        if (line.isEmpty() || NO_PROMISE.matcher(line).matches()) {
            return;
        }
        String plain = SIGNATURE.matcher(line).replaceFirst("").replaceFirst("^- ", "");
        for (String sentence : plain.split("(?<=\\.) (?=[A-Z])")) {
            sentences.computeIfAbsent(section, each -> new LinkedHashSet<>()).add(sentence);
        }
    }

    /** Notes that a test stands for a sentence; answers whether the document has it. */
    boolean names(String section, String sentence) {
        if (!sentences.getOrDefault(section, Set.of()).contains(sentence)) {
            return false;
        }
        unnamed.get(section).remove(sentence);
        return true;
    }

    /** The sentences that no test has named, by their sections. */
    Map<String, Set<String>> unnamed() {
        return unnamed;
    }

    int size() {
        return sentences.values().stream().mapToInt(Set::size).sum();
    }
}
