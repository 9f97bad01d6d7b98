import java.io.IOException;
import java.nio.file.Files;
import java.nio.file.Path;
import java.util.ArrayList;
import java.util.List;
import java.util.Map;
import java.util.TreeMap;
import java.util.function.Supplier;

/**
 * The document by sentences. A test says which one it is about by quoting it; end() tells
 * every sentence that no test has quoted, so that none is forgotten.
 */
final class Sentences {
    private static final Path DOC = Path.of("../shared/DOC.md");
    private static final String[] WORDS = {"BEYOND", "FULL", "KIND", "NONE", "STATE", "MISSING", "SIZE"};

    private final Map<String, String> texts = new TreeMap<>();
    private final Map<String, boolean[]> quoted = new TreeMap<>();
    private final Due due = new Due();
    private String now = "";

    Sentences() throws IOException {
        String doc = Files.readString(DOC);
        String use = between(doc, "An object is used", "## The public face");
        put("Use", "An object is used" + use);
        String terms = between(doc, "## Terms", "Ahead of the calls");
        String[] parts = terms.split("(?m)^(?=[1-5]\\. )");
        for (int i = 0; i < parts.length; i++) {
            put("Terms " + i, i == 0 ? parts[i] : parts[i].substring(3));
        }
        for (int p = 1; p <= 42; p++) {
            String text = between(doc, "## Promise " + p + ":", "\n## ");
            put("Promise " + p, text.substring(text.indexOf('\n')));
        }
    }

    private static String between(String doc, String from, String to) {
        int start = doc.indexOf(from);
        if (start < 0 || doc.indexOf(to, start) < 0) {
            throw new IllegalStateException("the document has no " + from);
        }
        return doc.substring(start + from.length(), doc.indexOf(to, start));
    }

    private static String smooth(String text) {
        return text.replace("```text", "").replace("```", "").replaceAll("\\s+", " ").trim();
    }

    private void put(String section, String text) {
        texts.put(section, smooth(text));
        quoted.put(section, new boolean[texts.get(section).length()]);
    }

    /** What follows is about this sentence, which must stand in the document to the letter. */
    void of(String section, String quote) {
        now = section + ", \"" + quote + "\": ";
        String text = texts.getOrDefault(section, "");
        int at = text.indexOf(quote);
        due.is(now + "stands in the document", at >= 0 ? 1 : 0, 1);
        for (int i = at; i >= 0 && i < at + quote.length(); i++) {
            quoted.get(section)[i] = true;
        }
    }

    void is(String call, long got, long want) {
        due.is(now + call, got, want);
    }

    /** The call of a new object is refused so; it is counted, and all else is as it would be without it. */
    void refused(Supplier<SlipWeeks> maker, long finding, String name, long... a) {
        SlipWeeks x = maker.get();
        SlipWeeks twin = maker.get();
        String call = Looks.told(name, a);
        is(call, Calls.on(x, name, a), finding);
        for (int f = 0; f < WORDS.length; f++) {
            boolean it = finding == Due.BEYOND - f;
            is("status(" + f + "), " + WORDS[f] + ", behind " + call, x.status(f), twin.status(f) + (it ? 1 : 0));
        }
        is("status(-1) behind " + call, x.status(-1), twin.status(-1) + 1);
        List<String> calls = new ArrayList<>();
        long[] got = Looks.all(x, calls);
        long[] want = Looks.all(twin, null);
        for (int i = 0; i < want.length; i++) {
            is(calls.get(i) + " behind " + call, got[i], want[i]);
        }
    }

    void end() {
        for (String section : texts.keySet()) {
            String text = texts.get(section);
            int start = 0;
            while (start < text.length()) {
                int end = endOf(text, start);
                boolean seen = false;
                for (int i = start; i < end; i++) {
                    seen |= quoted.get(section)[i];
                }
                due.is(section + " has a test of \"" + text.substring(start, end).trim() + "\"", seen ? 1 : 0, 1);
                start = end;
            }
        }
        due.end();
    }

    /** Behind the point that ends the sentence: not one of two points, and one with a blank behind it. */
    private static int endOf(String text, int start) {
        for (int i = start; i < text.length(); i++) {
            boolean point = text.charAt(i) == '.' && (i == 0 || text.charAt(i - 1) != '.');
            if (point && (i + 1 == text.length() || text.charAt(i + 1) == ' ')) {
                return Math.min(i + 2, text.length());
            }
        }
        return text.length();
    }
}
