import java.io.IOException;
import java.nio.file.Files;
import java.nio.file.Path;
import java.util.ArrayList;
import java.util.BitSet;
import java.util.HashSet;
import java.util.LinkedHashMap;
import java.util.List;
import java.util.Map;
import java.util.Set;
import java.util.regex.Matcher;
import java.util.regex.Pattern;

/**
 * Looks whether each sentence that the Edge tests name stands in the document,
 * in the part that they name, and whether all that the document says there is
 * named by one of them. With an argument it lists the tests instead.
 */
public final class EdgeIndexTest {
    private static final Path DOCUMENT = Path.of("../shared/DOC.md");
    /** What names no edge, by part: titles, and what other sentences say the edges of. */
    private static final Map<String, List<String>> WITHOUT_EDGE = Map.of(
            "What it is", List.of("Order book: orders by price and time, hidden parts that come round,"
                    + " pegged ones that follow the best, stops that wait for a price, orders for now or all at once,"
                    + " rules for who would trade with oneself, an auction uncrossed at the price of most volume,"
                    + " amendments that keep or lose their time, what is ahead of one, what a sweep would cost,"
                    + " owners' positions, texts, told trades judged, draws. ==== 1.",
                    "what later calls answer is free."),
            "Terms", List.of("ORDERS", "a KIND, an OWNER, a SIDE,"),
            "2. PHASES", List.of("When it is OPEN,"));

    private EdgeIndexTest() {
    }

    public static void main(String[] args) throws IOException {
        EdgeShelvesTest.add();
        EdgeComingTest.add();
        EdgeChangeTest.add();
        EdgeTellingTest.add();
        EdgeWholeTest.add();
        EdgeTermsTest.add();
        EdgePhasesTest.add();
        EdgeAuctionTest.add();
        EdgeOutcomeTest.add();
        EdgeRefusalsTest.add();
        if (args.length > 0) {
            Edge.tests().forEach(test -> System.out.println(test.name()));
            return;
        }
        names();
        Map<String, String> parts = parts();
        Due.is("parts of the document", parts.size(), 41);
        for (Edge.Test test : Edge.tests()) {
            Due.is("how often it stands in the document: " + test.name(),
                    places(parts.getOrDefault(test.part(), ""), test.sentence()).size(), 1);
        }
        parts.forEach(EdgeIndexTest::isNamedAllThrough);
        Due.end();
    }

    private static void names() {
        Set<String> names = new HashSet<>();
        for (Edge.Test test : Edge.tests()) {
            Due.is("one test alone is named " + test.name(), names.add(test.name()) ? 1 : 0, 1);
        }
    }

    /** By its title what each part says, without line ends. */
    private static Map<String, String> parts() throws IOException {
        String all = Files.readString(DOCUMENT).replace("```text", " ").replace("```", " ").replaceAll("\\s+", " ");
        Map<String, String> parts = new LinkedHashMap<>();
        parts.put("What it is", between(all, "## What it is ", "## The public face"));
        parts.put("Terms", between(all, "## Terms ", "==== 2. PHASES"));
        parts.put("2. PHASES", between(all, "==== 2. PHASES", "==== 3. WHAT COMES OF IT"));
        parts.put("3. WHAT COMES OF IT", between(all, "==== 3. WHAT COMES OF IT", "REFUSALS (the call"));
        parts.put("REFUSALS", "(the call" + between(all, "REFUSALS (the call", "## Promise 1:"));
        // A promise's title, its call between `, and what it says up to the next title.
        Matcher promise = Pattern.compile("## (Promise \\d+): [^`]*`[^`]*`:([^#]*)").matcher(all);
        while (promise.find()) {
            parts.put(promise.group(1), promise.group(2));
        }
        return parts;
    }

    private static String between(String all, String start, String end) {
        int from = all.indexOf(start);
        int to = all.indexOf(end);
        return from < 0 || to < from ? "" : all.substring(from + start.length(), to);
    }

    /** Where a sentence stands; not inside of a word or a number. */
    private static List<Integer> places(String text, String sentence) {
        List<Integer> places = new ArrayList<>();
        Matcher found = Pattern.compile("(?<![\\w-])" + Pattern.quote(sentence) + "(?!\\w)").matcher(text);
        while (found.find()) {
            places.add(found.start());
        }
        return places;
    }

    private static void isNamedAllThrough(String part, String text) {
        BitSet named = new BitSet();
        for (Edge.Test test : Edge.tests()) {
            if (test.part().equals(part)) {
                mark(named, text, test.sentence());
            }
        }
        for (String sentence : WITHOUT_EDGE.getOrDefault(part, List.of())) {
            Due.is("it stands in " + part + ": " + sentence, places(text, sentence).isEmpty() ? 0 : 1, 1);
            mark(named, text, sentence);
        }
        StringBuilder unnamed = new StringBuilder();
        for (int i = 0; i < text.length(); i++) {
            unnamed.append(named.get(i) ? ' ' : text.charAt(i));
        }
        String left = unnamed.toString().replaceAll("\\s+", " ").trim();
        Due.is("what no test names of " + part + ": " + left, left.length(), 0);
    }

    private static void mark(BitSet named, String text, String sentence) {
        for (int place : places(text, sentence)) {
            named.set(place, place + sentence.length());
        }
    }
}
