import java.util.ArrayList;
import java.util.List;
import java.util.function.Supplier;
import java.util.function.ToLongFunction;

/**
 * Tests of the document's edges. Each has a name of three parts: where the
 * sentence stands (a promise's number, or the part ahead of the promises), the
 * sentence in the document's own words, and the edge of it that is tested.
 * EdgeIndexTest looks whether the sentences stand there, and whether all have a test.
 */
final class Edge {
    /** What a test does with an object that was made for it alone. */
    interface Body {
        void with(UncrossedBook x);
    }

    record Test(String part, String sentence, String edge, Supplier<UncrossedBook> from, Body body) {
        String name() {
            return part + " \"" + sentence + "\" (" + edge + ")";
        }
    }

    private static final List<Test> TESTS = new ArrayList<>();

    private final String part;

    private Edge(String part) {
        this.part = part;
    }

    static Edge promise(int number) {
        return new Edge("Promise " + number);
    }

    static Edge ahead(String part) {
        return new Edge(part);
    }

    void holds(String sentence, String edge, Supplier<UncrossedBook> from, Body body) {
        TESTS.add(new Test(part, sentence, edge, from, body));
    }

    /** On a new object. */
    void holds(String sentence, String edge, Body body) {
        holds(sentence, edge, UncrossedBook::new, body);
    }

    /** One call with one answer. */
    void answers(String sentence, String edge, Supplier<UncrossedBook> from,
            ToLongFunction<UncrossedBook> call, long answer) {
        holds(sentence, edge, from, x -> Due.is("the call", call.applyAsLong(x), answer));
    }

    /** A call that is refused: counted once, by its reason alone, and nothing else changes. */
    void refuses(String sentence, String edge, Supplier<UncrossedBook> from,
            ToLongFunction<UncrossedBook> call, long answer) {
        holds(sentence, edge, from, x -> {
            List<String> before = Snapshot.of(x);
            long[] counted = Books.refusals(x);
            Due.is("the refused call", call.applyAsLong(x), answer);
            counted[(int) (-answer % 10) - 1]++;
            Due.are("refusals -1 to -7", Books.refusals(x), counted);
            String changed = Snapshot.difference(before, Snapshot.of(x));
            Due.is("what changed: " + changed, changed.isEmpty() ? 0 : 1, 0);
        });
    }

    static List<Test> tests() {
        return TESTS;
    }

    static void run() {
        for (Test test : TESTS) {
            run(test);
        }
        Due.is("tests", TESTS.isEmpty() ? 0 : 1, 1);
        System.out.println(TESTS.size() + " edges");
        Due.end();
    }

    static void run(Test test) {
        Due.in(test.name());
        int asked = Due.asked();
        try {
            test.body().with(test.from().get());
        } catch (RuntimeException e) {
            Due.is("a call threw " + e, 1, 0);
        }
        Due.is("asks something", Due.asked() > asked ? 1 : 0, 1);
    }
}
