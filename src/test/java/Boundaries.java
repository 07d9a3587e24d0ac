import java.util.function.Supplier;

/** Checks under the sentences of the document that they stand for, each sentence with its own. */
final class Boundaries {
    /** A call on a house. */
    interface Asked {
        Object of(Poolward x);
    }

    private final Document document = Document.read();
    private final Check check = new Check();
    private String sentence = "";
    private int askedAhead;

    /** The checks that follow stand for these words of that part of the document. */
    void sentence(String part, String words) {
        closeSentence();
        sentence = part + ", \"" + words + "\"";
        check.part(sentence);
        boolean isThere = document.quote(part, words);
        check.due(true, isThere);
        askedAhead = check.asked();
    }

    private void closeSentence() {
        if (!sentence.isEmpty() && check.asked() == askedAhead) {
            check.due("a check", "none");
        }
    }

    void due(Object want, Object got) {
        check.due(want, got);
    }

    /** What a promise throws by the ranges of its numbers, and what it answers at their ends. */
    void ranges(int promise, String noIndex, String notLet, String spec) {
        Ranged ranged = new Ranged(this, spec);
        if (!noIndex.isEmpty()) {
            sentence("Promise " + promise, "Throws IndexOutOfBoundsException if " + noIndex);
            ranged.noIndex();
            ranged.edges();
        }
        if (!notLet.isEmpty()) {
            sentence("Promise " + promise, "Throws IllegalArgumentException if " + notLet);
            ranged.notLet();
            ranged.edges();
        }
    }

    /** On a new house each: these calls throw that, and all is told as ahead of them. */
    void index(Supplier<Poolward> made, Asked... calls) {
        refused("throws.IndexOutOfBoundsException", made, calls);
    }

    void argument(Supplier<Poolward> made, Asked... calls) {
        refused("throws.IllegalArgumentException", made, calls);
    }

    void state(Supplier<Poolward> made, Asked... calls) {
        refused("throws.IllegalStateException", made, calls);
    }

    /** On a new house each: these calls tell -8 or -9, and all is told as ahead of them. */
    void notDone(int number, Supplier<Poolward> made, Asked... calls) {
        refused(number, made, calls);
    }

    private void refused(Object want, Supplier<Poolward> made, Asked... calls) {
        String ahead = Telling.withCounts(made.get());
        for (Asked call : calls) {
            Poolward x = made.get();
            check.due(want, Check.answerOf(() -> call.of(x)));
            check.due(ahead, Telling.withCounts(x));
        }
    }

    /** That no sentence which names an edge is left without its checks. */
    void finish() {
        closeSentence();
        check.part("not quoted");
        for (String piece : document.leftOut()) {
            check.due("quoted", piece);
        }
        check.finish();
    }
}
