import java.io.IOException;
import java.nio.file.Files;
import java.nio.file.Path;
import java.util.ArrayList;
import java.util.List;

/**
 * Keeps the sentences of the document that the boundary tests quote. At the end it looks whether each
 * of them has a check of its own, stands in the document, and whether the document has any besides.
 */
final class Sentences {
    /** The number of the part ahead of the promises. */
    static final int TERMS = 0;

    private static final int PROMISES = 20;

    private record Quote(int part, String words) {
    }

    private static final List<Quote> QUOTES = new ArrayList<>();
    private static int checkedAhead = 0;

    private Sentences() {
    }

    /** The checks up to the next quote are those of these words. */
    static void quote(int part, String words) {
        lastHasChecks();
        QUOTES.add(new Quote(part, words));
        checkedAhead = Check.checked();
        Check.under((part == TERMS ? "terms" : "promise " + part) + ", \"" + words + "\": ");
    }

    private static void lastHasChecks() {
        boolean has = QUOTES.isEmpty() || Check.checked() > checkedAhead;
        Check.holds("a sentence has a check of its own", has);
    }

    static void compareWith(Path document) throws IOException {
        lastHasChecks();
        Check.under("");
        if (!Files.exists(document)) {
            System.out.println("there is no " + document + ": the quotes are not compared with it");
            return;
        }
        List<String> parts = partsOf(Files.readString(document));
        Check.same("parts of the document", PROMISES + 1, parts.size());
        for (Quote quote : QUOTES) {
            boolean stands = quote.part < parts.size() && parts.get(quote.part).contains(quote.words);
            Check.holds("part " + quote.part + " of the document says: " + quote.words, stands);
        }
        for (int part = 0; part < parts.size(); part++) {
            String rest = withoutQuotes(part, parts.get(part));
            Check.holds("part " + part + " of the document is quoted but for: " + rest, !rest.matches(".*\\w.*"));
        }
    }

    /** The terms and then each promise, without headings, signatures and marks. */
    private static List<String> partsOf(String document) {
        String text = document.replaceAll("(?s)```java.*?```", " ").replace("```text", " ").replace("```", " ");
        text = text.substring(text.indexOf("==== 1.") + "==== 1.".length(), text.indexOf("## Not promised"));
        List<String> parts = new ArrayList<>();
        for (String part : text.split("## Promise \\d+: [^\n]*\n")) {
            String plain = part.replaceAll("(?m)^## .*$", " ").replaceAll("==== \\d\\.", " ");
            parts.add(plain.replaceAll("(?m)^`[^`]*`:", " ").replaceAll("\\s+", " "));
        }
        return parts;
    }

    private static String withoutQuotes(int part, String text) {
        String rest = text;
        for (Quote quote : QUOTES) {
            if (quote.part == part) {
                rest = rest.replace(quote.words, " ");
            }
        }
        return rest.trim();
    }
}
