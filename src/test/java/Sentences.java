import java.io.IOException;
import java.nio.file.Files;
import java.nio.file.Path;
import java.util.Map;
import java.util.TreeMap;
import java.util.regex.Matcher;
import java.util.regex.Pattern;

/** Tests, each under the words of ../shared/DOC.md that it holds the program to. */
final class Sentences {
    private final Checks checks = new Checks("SentencesTest");
    private final Quoted preface, terms;
    private final Map<Integer, Quoted> promises = new TreeMap<>();
    private String words = "";
    private int promise, answers = 1;

    Sentences() throws IOException {
        String doc = Files.readString(Path.of("../shared/DOC.md")).replaceAll("\\s+", " ");
        preface = new Quoted(between(doc, "## What it is", "## The public face"));
        terms = new Quoted(between(doc, "## Terms", "Ahead of the calls `feed`").replace("```text", "").replace("```", ""));
        Matcher heads = Pattern.compile("## Promise (\\d+): \\w[\\w ]* `[^`]*`: (.*?)(?= ## )").matcher(doc);
        while (heads.find()) promises.put(Integer.parseInt(heads.group(1)), new Quoted(heads.group(2)));
        checks.due("promises of the document", promises.size(), 46);
    }

    private static String between(String doc, String from, String to) {
        int start = doc.indexOf(from) + from.length();
        return doc.substring(start, doc.indexOf(to, start));
    }

    /** Begins a test of its own, on a new object; what comes next is asked because of these words. */
    TreeToTree says(int promise, String words) {
        endTest();
        this.promise = promise;
        this.words = words;
        answers = 0;
        Quoted own = promises.get(promise);
        boolean found = own != null && own.quote(words) > 0 || terms.quote(words) == 1 || preface.quote(words) == 1;
        checks.holds("the document says (if not under " + promise + ", once alone): " + words, found);
        return new TreeToTree();
    }

    void due(String call, long got, long want) {
        answers++;
        checks.due(promise + ": \"" + words + "\": " + call, got, want);
    }

    private void endTest() {
        checks.holds("something is asked because of: " + words, answers > 0);
    }

    /** No word of the terms and the promises may stand without a test. */
    void end() {
        endTest();
        checks.due("words of the terms without a test: " + terms.rest(), terms.rest().length(), 0);
        for (int number : promises.keySet()) {
            String rest = promises.get(number).rest();
            checks.due("words of promise " + number + " without a test: " + rest, rest.length(), 0);
        }
        checks.end();
    }

    /** A piece of the document, and which of its signs have been quoted. */
    private static final class Quoted {
        private final String text;
        private final boolean[] quoted;

        Quoted(String text) {
            this.text = text;
            quoted = new boolean[text.length()];
        }

        /** Answers how many places have these words. */
        int quote(String words) {
            int places = 0;
            for (int at = text.indexOf(words); at >= 0; at = text.indexOf(words, at + 1)) {
                places++;
                for (int i = 0; i < words.length(); i++) quoted[at + i] = true;
            }
            return places;
        }

        /** What has not been quoted, without signs that are no words and the terms' own headings. */
        String rest() {
            StringBuilder rest = new StringBuilder();
            for (int i = 0; i < text.length(); i++) rest.append(quoted[i] ? ' ' : text.charAt(i));
            String left = rest.toString().replaceAll("==== [123]|The constants:", " ");
            return left.replaceAll("[^A-Za-z0-9]+", " ").trim();
        }
    }
}
