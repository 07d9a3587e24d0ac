/**
 * Sentence by sentence: each one of the document that names an edge stands here with checks of that
 * edge, and the test fails if one is left out.
 */
public final class BoundaryTest {
    private BoundaryTest() {
    }

    public static void main(String[] args) {
        Boundaries boundaries = new Boundaries();
        new EdgesOfPeople(boundaries).check();
        new EdgesOfYears(boundaries).check();
        new EdgesOfChanges(boundaries).check();
        new EdgesOfAnswers(boundaries).check();
        boundaries.finish();
    }
}
