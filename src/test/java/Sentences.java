import java.io.IOException;
import java.nio.file.Files;
import java.nio.file.Path;
import java.util.Arrays;
import java.util.function.IntSupplier;
import java.util.regex.Matcher;
import java.util.regex.Pattern;

/**
 * Answers looked at by the sentence of the document that asks for them. A sentence must stand in the document, once in
 * its part, and each mark of an edge that the document has must lie in a sentence that was looked at.
 */
final class Sentences {
    private static final Pattern EDGE = Pattern.compile("\\d+ to \\d+|-[123]\\b|\\bNONE\\b|nothing happens|nothing new"
        + "|\\bat most|\\bat least|or more|\\bnobody|\\bNobody|\\bbelow|\\babove|\\bbeyond|\\bof several|\\bwithout"
        + "|\\bdownwards|goes round|the rest|the last|\\btoo\\b|\\bnone\\b|never made|999|this one the first|of 100"
        + "|in 100|alike|\\bturn(s|ed)? back");

    private final Check check;
    private final String document;
    private final boolean[] quoted;
    private String sentence = "";
    private int answers = 1;
    private int sentences = 0;

    Sentences(String name, Path path) throws IOException {
        check = new Check(name);
        document = Files.readString(path).replaceAll("\\s+", " ");
        quoted = new boolean[document.length()];
    }

    /** What is due from here on is asked for by this sentence of 'Terms'. */
    void terms(String quote) {
        begin("## Terms", "## Promise 1:", quote);
    }

    /** What is due from here on is asked for by this sentence of a promise. */
    void promise(int number, String quote) {
        begin("## Promise " + number + ":", number < 34 ? "## Promise " + (number + 1) + ":" : "## Not promised", quote);
    }

    private void begin(String from, String to, String quote) {
        endSentence();
        int least = document.indexOf(from);
        int most = document.indexOf(to, Math.max(0, least));
        int at = least < 0 ? -1 : document.indexOf(quote, least);
        boolean there = at >= 0 && most >= 0 && at + quote.length() <= most;
        check.due("'" + quote + "' stands behind " + from, there ? 1 : 0, 1);
        if (there) {
            int again = document.indexOf(quote, at + 1);
            check.due("'" + quote + "' stands there once", again < 0 || again >= most ? 1 : 0, 1);
            Arrays.fill(quoted, at, at + quote.length(), true);
        }
        sentence = quote;
        answers = 0;
        sentences++;
    }

    private void endSentence() {
        check.due("'" + sentence + "' has a test", answers > 0 ? 1 : 0, 1);
    }

    void due(String what, int got, int want) {
        answers++;
        check.due("'" + sentence + "': " + what, got, want);
    }

    /** A call that is refused: its answer, and that all is as it was. */
    void refused(AimFerry f, String what, IntSupplier call, int want) {
        String before = picture(f);
        due(what, call.getAsInt(), want);
        String then = picture(f);
        due("nothing happens by " + what + " (" + before + " -> " + then + ")", then.equals(before) ? 1 : 0, 1);
    }

    /** All that can be seen of an object without long rows of calls. */
    static String picture(AimFerry f) {
        StringBuilder all = new StringBuilder();
        for (int what = 0; what <= 15; what++) {
            all.append(f.count(what)).append(' ');
        }
        for (int person = 0; person < f.count(3); person++) {
            all.append(f.person(person, 0)).append('/').append(f.person(person, 3)).append(' ');
        }
        return all.toString().trim();
    }

    void finish() {
        endSentence();
        for (int number = 1; number <= 34; number++) {
            int at = document.indexOf("## Promise " + number + ":");
            int next = document.indexOf("## ", at + 1);
            boolean any = false;
            for (int k = Math.max(0, at); k < next; k++) {
                any |= quoted[k];
            }
            check.due("promise " + number + " has a sentence", any ? 1 : 0, 1);
        }
        lookForEdges();
        check.finish();
    }

    private void lookForEdges() {
        int from = document.indexOf("## Terms");
        int to = document.indexOf("## Not promised");
        Matcher edge = EDGE.matcher(document);
        edge.region(Math.max(0, from), Math.max(from, to));
        int edges = 0;
        while (edge.find()) {
            edges++;
            boolean has = quoted[edge.start()] && quoted[edge.end() - 1];
            String around = document.substring(Math.max(0, edge.start() - 40), Math.min(document.length(), edge.end() + 20));
            check.due("the edge in '" + around + "' has a sentence", has ? 1 : 0, 1);
        }
        check.due("edges are found", edges > 100 ? 1 : 0, 1);
        System.out.println(sentences + " sentences, " + edges + " marks of edges");
    }
}
