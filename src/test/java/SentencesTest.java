import java.io.IOException;
import java.util.List;

/**
 * The document, sentence by sentence: each has checks that name it, most of all at the edges that it tells of.
 * A sentence without a check, and a check of a sentence that the document does not have, are both told as wrong.
 */
public final class SentencesTest {
    public static void main(String[] args) throws IOException {
        Due due = new Due("SentencesTest");
        Document document = Document.read();
        due.holds("the document has sentences", document.size() > 100);
        List<Sentences> all = List.of(
                new CachesSentences(due, document),
                new FiltersSentences(due, document),
                new SnoopsSentences(due, document),
                new TextsSentences(due, document),
                new HistorySentences(due, document),
                new ErrorsSentences(due, document),
                new ActsSentences(due, document),
                new ProgramsSentences(due, document),
                new TellingSentences(due, document));
        for (Sentences each : all) {
            each.run();
        }
        document.unnamed().forEach((section, sentences) -> {
            for (String sentence : sentences) {
                due.holds(section + ", \"" + sentence + "\" is named by a check", false);
            }
        });
        due.close();
    }
}
