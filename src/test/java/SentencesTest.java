/** All words of the document, each with a test of its own. */
public final class SentencesTest {
    public static void main(String[] args) throws Exception {
        Sentences sentences = new Sentences();
        Group[] groups = {new ParkSentences(), new TreeSentences(), new WalkerSentences(), new WaySentences(),
            new DriestSentences(), new CoatSentences(), new SeenSentences(), new RuleSentences(),
            new ActSentences(), new ImageSentences(), new RefusalSentences()};
        for (Group group : groups) group.ask(sentences);
        sentences.end();
    }
}
