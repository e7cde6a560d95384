import java.io.IOException;
import java.lang.reflect.Method;
import java.nio.file.Files;
import java.nio.file.Path;
import java.util.ArrayList;
import java.util.LinkedHashSet;
import java.util.List;
import java.util.Set;
import java.util.TreeSet;
import java.util.regex.Matcher;
import java.util.regex.Pattern;

/** Every sentence of the document has a test that quotes it. Arguments: the source file and the document. */
public final class SentenceTest {
    private static final Class<?>[] SUITES = {TermsOfPlayTest.class, TermsOfScriptsTest.class, SettingUpTest.class,
        BiddingTest.class, PlayersTest.class, SitesTest.class, GraphTest.class, TotalsTest.class, OutputTest.class,
        ScriptsTest.class, ChangesTest.class, OrderTest.class};

    /** Sentences of which no answer of a call can tell. */
    private static final String[] UNTOLD = {
        "0 An auction game on an undirected graph: players place bids for bridge sites between islands, bluff, trump "
            + "higher bids with ferries, and build the bridges that connect the islands.",
        "0 The class also offers shortest paths, connected components, minimum spanning forests, scores, a small "
            + "command language, undo and a snapshot.",
        "0 It is not thread-safe.",
        "0 All integer divisions round down.",
        "0 To settle a free site with bids means the following."};

    private final Checks checks = new Checks();

    public static void main(String[] arguments) throws IOException {
        SentenceTest test = new SentenceTest();
        test.compare(Files.readString(Path.of(arguments[1])));
        test.refusalsHaveTestsOfTheirOwn();
        test.checks.close();
    }

    private void compare(String document) {
        Set<String> told = sentences(document);
        Set<String> quoted = new TreeSet<>(List.of(UNTOLD));
        for (Class<?> suite : SUITES) {
            for (Method method : suite.getDeclaredMethods()) {
                quoted.addAll(quotedBy(method));
            }
        }
        checks.due("the document has many sentences", true, () -> told.size() > 230);
        for (String sentence : told) {
            checks.due("a test of: " + sentence, true, () -> quoted.contains(sentence));
        }
        for (String sentence : quoted) {
            checks.due("the document says: " + sentence, true, () -> told.contains(sentence));
        }
    }

    private void refusalsHaveTestsOfTheirOwn() {
        for (Class<?> suite : SUITES) {
            for (Method method : suite.getDeclaredMethods()) {
                List<String> quoted = quotedBy(method);
                boolean refusal = quoted.toString().contains("Throws `");
                checks.due("sentences of " + method.getName(), true, () -> !refusal || quoted.size() == 1);
            }
        }
    }

    private static List<String> quotedBy(Method method) {
        List<String> quoted = new ArrayList<>();
        for (Sentence sentence : method.getAnnotationsByType(Sentence.class)) {
            quoted.add(sentence.promise() + " " + sentence.text());
        }
        return quoted;
    }

    private static Set<String> sentences(String document) {
        Set<String> told = new LinkedHashSet<>();
        String plain = document.replaceAll("(?s)```.*?```", "");
        Matcher section = Pattern.compile("(?ms)^## (What it is|Terms|Promise (\\d+): [^\\n]*)\\n(.*?)(?=^## )")
                .matcher(plain);
        while (section.find()) {
            String promise = section.group(2) == null ? "0" : section.group(2);
            for (String paragraph : section.group(3).split("\\n\\n")) {
                addSentences(told, promise, paragraph.strip().replaceAll("\\s+", " "));
            }
        }
        return told;
    }

    /** The lists of calls and of arguments say nothing that a call answers, nor does a paragraph's heading. */
    private static void addSentences(Set<String> told, String promise, String paragraph) {
        if (paragraph.isEmpty() || paragraph.startsWith("- ") || paragraph.startsWith("Ahead of the calls")) {
            return;
        }
        String text = paragraph.replaceFirst("^`[^`]*`: ", "").replaceFirst("^[A-Z][a-z]*\\. ", "");
        for (String sentence : text.split("(?<=[.]) (?=[A-Z])")) {
            told.add(promise + " " + sentence);
        }
    }
}
