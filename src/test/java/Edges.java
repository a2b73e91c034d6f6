import java.io.IOException;
import java.nio.file.Files;
import java.nio.file.Path;
import java.util.Map;
import java.util.TreeMap;
import java.util.regex.Matcher;
import java.util.regex.Pattern;

/**
 * Tests of the document's sentences that name a boundary case. Each test names its place, a promise or a section of
 * 'Terms', and quotes the sentence; the quote must stand there, so that no test goes on when the document has changed.
 */
final class Edges {
    /** One sentence's test. */
    interface Test {
        void run();
    }

    private static final Pattern PLACE = Pattern.compile("(?m)^(?:## ([^\n]*)|(?:==== )?(VI|IV|V|I{1,3})\\. )");

    private final Checks checks = new Checks();
    private final Map<String, String> texts = new TreeMap<>();
    private final Map<String, Integer> tested = new TreeMap<>();
    private String place = "";
    private String quote = "";

    Edges(Path document) throws IOException {
        String text = Files.readString(document);
        Matcher places = PLACE.matcher(text);
        String name = "";
        int from = 0;
        while (places.find()) {
            texts.merge(name, oneLine(text.substring(from, places.start())), String::concat);
            name = places.group(2) != null ? places.group(2) : places.group(1).replaceAll(":.*", "");
            from = places.end();
        }
        texts.merge(name, oneLine(text.substring(from)), String::concat);
    }

    private static String oneLine(String text) {
        return text.replaceAll("\\s+", " ");
    }

    void sentence(String itsPlace, String itsQuote, Test test) {
        place = itsPlace;
        quote = itsQuote;
        checks.holds(label("the document says it there"), texts.getOrDefault(place, "").contains(quote));
        tested.merge(place, 1, Integer::sum);
        long before = checks.askedSoFar();
        try {
            test.run();
        } catch (RuntimeException e) {
            e.printStackTrace(System.out);
            checks.holds(label("its test goes through"), false);
        }
        checks.holds(label("its test asks something"), checks.askedSoFar() > before);
    }

    private String label(String what) {
        return place + ", \"" + quote + "\": " + what;
    }

    void due(String what, long got, long want) {
        checks.due(label(what), got, want);
    }

    void due(String what, byte[] got, byte[] want) {
        checks.due(label(what), got, want);
    }

    private void dueEach(String... places) {
        for (String each : places) {
            checks.holds(each + " has a sentence with a test", tested.containsKey(each));
        }
    }

    void finish() {
        dueEach("I", "II", "III", "IV", "V", "VI");
        for (int i = 1; i <= 25; i++) {
            dueEach("Promise " + i);
        }
        int all = 0;
        for (int n : tested.values()) {
            all += n;
        }
        System.out.println(all + " sentences: " + tested);
        checks.finish();
    }
}
