import java.util.LinkedHashMap;
import java.util.LinkedHashSet;
import java.util.List;
import java.util.Map;
import java.util.Set;

/** Runs tests that each name a sentence of the document, and tells which sentences no test has named. */
final class Edges {
    static final Class<IndexOutOfBoundsException> INDEX = IndexOutOfBoundsException.class;
    static final Class<IllegalArgumentException> ARGUMENT = IllegalArgumentException.class;
    static final Class<IllegalStateException> STATE = IllegalStateException.class;

    interface Call {
        Object on(Flowforge shop);
    }

    interface CallOfOne {
        Object on(Flowforge shop, int argument);
    }

    private final Check check = new Check("EdgesTest");
    private final Map<String, Set<String>> document = Document.sentences();
    private final Map<String, Set<String>> named = new LinkedHashMap<>();
    private String heading = "";
    private String sentence = "";

    /** The tests that follow name sentences under this heading of the document. */
    void under(String heading) {
        this.heading = heading;
    }

    void test(String sentence, Runnable body) {
        this.sentence = sentence;
        same("the document has this sentence", true, document.getOrDefault(heading, Set.of()).contains(sentence));
        same("this sentence has a test of its own", true,
            named.computeIfAbsent(heading, it -> new LinkedHashSet<>()).add(sentence));
        int looked = check.looked();
        try {
            body.run();
        } catch (RuntimeException e) {
            same("the test ends without " + e, true, false);
        }
        same("the test looks at an answer", true, check.looked() > looked);
    }

    void same(String what, Object want, Object got) {
        check.same(heading + ", '" + sentence + "': " + what, want, got);
    }

    void fails(String what, Class<? extends RuntimeException> want, Runnable call) {
        check.fails(heading + ", '" + sentence + "': " + what, want, call);
    }

    /** All answers of the shop are those of a new sample, to which nothing has happened. */
    void unchanged(String what, Sample sample, Flowforge shop) {
        same(what + ", another answer then", "", Answers.difference(sample.answers(), Answers.all(shop)));
    }

    /** All answers are those of a new shop with the same times and order, so nothing is left of what was before. */
    void asNew(String what, Flowforge shop) {
        same(what + ", another answer than that of a new shop", "",
            Answers.difference(Answers.all(Shops.copy(shop)), Answers.all(shop)));
    }

    /** The call throws, and each answer is then what it was before, whether it was asked before or not. */
    void refused(String call, Class<? extends RuntimeException> want, Sample sample, Call asked) {
        String what = call + " of " + sample;
        Flowforge unasked = sample.make();
        fails(what, want, () -> asked.on(unasked));
        unchanged(what, sample, unasked);

        Flowforge searched = sample.make();
        Answers.search(searched);
        fails(what + ", what is best being known", want, () -> asked.on(searched));
        unchanged(what + ", what is best being known", sample, searched);

        Flowforge changed = sample.make();
        fails(what, want, () -> asked.on(changed));
        same(what + ", another answer of calls that change it", "",
            Answers.difference(sample.laterAnswers(), Answers.later(changed)));
    }

    /** The call throws in each of the samples for each number that is outside of the room. */
    void refusedOutside(String call, Class<? extends RuntimeException> want, Room room, List<Sample> samples,
        CallOfOne asked) {
        for (Sample sample : samples) {
            for (int argument : room.outside(sample.make())) {
                refused(call.replace("%", "" + argument), want, sample, shop -> asked.on(shop, argument));
            }
        }
    }

    /** Ends the tests; wrong if a sentence of the document has none. */
    void end() {
        for (String each : document.keySet()) {
            heading = each;
            for (String untested : document.get(each)) {
                sentence = untested;
                same("a test names this sentence", true, named.getOrDefault(each, Set.of()).contains(untested));
            }
        }
        check.end();
    }
}
