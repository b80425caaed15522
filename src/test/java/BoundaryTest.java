import java.io.IOException;
import java.nio.file.Files;
import java.nio.file.Path;
import java.util.ArrayList;
import java.util.LinkedHashMap;
import java.util.List;
import java.util.Map;

/**
 * Runs the tests of single sentences (promises 1 to 42), and looks whether the document says each sentence under its
 * promise or its terms, and whether one of the document's is left without a test.
 */
public final class BoundaryTest {
    private static final Path DOCUMENT = Path.of("../shared/DOC.md");
    private static final String TERMS = "Terms";
    /** A part of the document, and which signs of it stand in a sentence that has a test. */
    private static final Map<String, String> parts = new LinkedHashMap<>();
    private static final Map<String, boolean[]> tested = new LinkedHashMap<>();
    private static int wrong = 0;

    public static void main(String[] args) throws IOException {
        EdgesOfRows.all();
        EdgesOfHistories.all();
        EdgesOfMerges.all();
        EdgesOfDeeds.all();
        EdgesOfKeeping.all();
        EdgesOfLines.all();
        EdgesOfTelling.all();
        if (Files.exists(DOCUMENT)) {
            readParts(Files.readString(DOCUMENT));
            Edges.quotes.forEach(BoundaryTest::findQuote);
            parts.keySet().forEach(BoundaryTest::sayUntested);
        } else {
            System.out.println("no " + DOCUMENT + ": not looked whether each of its sentences has a test");
        }
        System.out.println("BoundaryTest: " + Edges.quotes.size() + " sentences, " + Edges.answers + " answers, "
                + (Edges.wrong + wrong) + " wrong");
        if (Edges.wrong + wrong != 0) {
            System.exit(1);
        }
    }

    private static void say(String what) {
        wrong++;
        System.out.println(what);
    }

    /** The terms, and each promise by its number, without its call; marks and what the interface says are no sentences. */
    private static void readParts(String document) {
        for (String section : document.split("\n## ")) {
            int end = section.indexOf('\n');
            String head = end < 0 ? section : section.substring(0, end);
            String body = end < 0 ? "" : section.substring(end);
            if (head.startsWith("Promise ")) {
                keepPart(head.substring(8, head.indexOf(':')), body.substring(body.indexOf("`:") + 2));
            } else if (head.equals(TERMS)) {
                keepPart(TERMS, body.replaceAll("\nAhead of the calls [^\n]*", "").replaceAll("```(text)?|=+ \\d", ""));
            }
        }
        if (parts.size() != 43) {
            say("the document's parts are " + parts.keySet());
        }
    }

    private static void keepPart(String name, String text) {
        String plain = text.replaceAll("\\s+", " ");
        parts.put(name, plain);
        tested.put(name, new boolean[plain.length()]);
    }

    private static void findQuote(String quote) {
        String promise = quote.substring(0, quote.indexOf(' '));
        String words = quote.substring(quote.indexOf(' ') + 1);
        if (!markQuote(promise, words) && !markQuote(TERMS, words)) {
            say("the document does not say, of promise " + promise + ": " + words);
        }
    }

    private static boolean markQuote(String name, String words) {
        String text = parts.getOrDefault(name, "");
        int at = text.indexOf(words);
        for (int from = at; from >= 0; from = text.indexOf(words, from + 1)) {
            for (int i = from; i < from + words.length(); i++) {
                tested.get(name)[i] = true;
            }
        }
        return at >= 0;
    }

    private static void sayUntested(String name) {
        List<String> rests = new ArrayList<>();
        StringBuilder rest = new StringBuilder();
        String text = parts.get(name) + " ";
        for (int i = 0; i < text.length(); i++) {
            if (i < text.length() - 1 && !tested.get(name)[i]) {
                rest.append(text.charAt(i));
            } else {
                rests.add(rest.toString());
                rest.setLength(0);
            }
        }
        for (String words : rests) {
            if (words.chars().anyMatch(Character::isLetter)) {
                say("without a test, of " + name + ": " + words);
            }
        }
    }
}
