import java.util.ArrayList;
import java.util.List;

/**
 * A method with the range of each of its numbers, written as "loss 1:0-2! 1:0-2! 5:0-12": an
 * ordinary number, the least and the greatest that is let in the furnished house; "!" where
 * another one is no index. A number alone stands for itself.
 */
final class Ranged {
    private static final String NO_INDEX = "throws.IndexOutOfBoundsException";
    private static final String NOT_LET = "throws.IllegalArgumentException";
    private static final String UNTOUCHED = Telling.withCounts(Houses.furnished());

    private final Boundaries boundaries;
    private final String name;
    private final int[] usual;
    private final int[] least;
    private final int[] most;
    private final boolean[] isIndex;

    Ranged(Boundaries boundaries, String spec) {
        String[] words = spec.split(" ");
        int count = words.length - 1;
        this.boundaries = boundaries;
        name = words[0];
        usual = new int[count];
        least = new int[count];
        most = new int[count];
        isIndex = new boolean[count];
        for (int i = 0; i < count; i++) {
            isIndex[i] = words[i + 1].endsWith("!");
            String[] numbers = words[i + 1].replace("!", "").split("[:-]");
            usual[i] = Integer.parseInt(numbers[0]);
            least[i] = numbers.length < 3 ? Integer.MIN_VALUE : Integer.parseInt(numbers[1]);
            most[i] = numbers.length < 3 ? Integer.MAX_VALUE : Integer.parseInt(numbers[2]);
        }
    }

    /** At its ordinary numbers, and with each at its least and at its greatest: as the model. */
    void edges() {
        answersAsTheModel(usual);
        for (int i = 0; i < usual.length; i++) {
            if (least[i] != Integer.MIN_VALUE) {
                answersAsTheModel(with(i, least[i]));
                answersAsTheModel(with(i, most[i]));
            }
        }
    }

    private void answersAsTheModel(int[] numbers) {
        String call = written(numbers);
        Model model = Houses.furnishedModel();
        Poolward house = Houses.furnished();
        boundaries.due(call + " " + Houses.answer(model, call),
                call + " " + Houses.answer(house, call));
        boundaries.due(call + " " + model.digest(), call + " " + house.digest());
    }

    /** With an index out of its range, also if another number is out of its range with it. */
    void noIndex() {
        refusals(true);
    }

    /** With a number out of its range, and each index in its own. */
    void notLet() {
        refusals(false);
    }

    private void refusals(boolean isOfIndex) {
        for (int i = 0; i < usual.length; i++) {
            for (int far : beyond(i)) {
                refusal(with(i, far), isIndex[i], isOfIndex);
                for (int j = i + 1; j < usual.length; j++) {
                    for (int alsoFar : beyond(j)) {
                        int[] numbers = with(i, far);
                        numbers[j] = alsoFar;
                        refusal(numbers, isIndex[i] || isIndex[j], isOfIndex);
                    }
                }
            }
        }
    }

    private void refusal(int[] numbers, boolean isNoIndex, boolean isAsked) {
        if (isNoIndex != isAsked) {
            return;
        }
        String call = written(numbers);
        Poolward house = Houses.furnished();
        boundaries.due(call + " " + (isNoIndex ? NO_INDEX : NOT_LET),
                call + " " + Houses.answer(house, call));
        boundaries.due(call + " " + UNTOUCHED, call + " " + Telling.withCounts(house));
    }

    private List<Integer> beyond(int i) {
        List<Integer> far = new ArrayList<>();
        if (least[i] != Integer.MIN_VALUE) {
            far.add(least[i] - 1);
            far.add(most[i] + 1);
            far.add(Integer.MIN_VALUE);
            far.add(Integer.MAX_VALUE);
        }
        return far;
    }

    private int[] with(int i, int number) {
        int[] numbers = usual.clone();
        numbers[i] = number;
        return numbers;
    }

    private String written(int[] numbers) {
        StringBuilder call = new StringBuilder(name);
        for (int number : numbers) {
            call.append(' ').append(number);
        }
        return call.toString();
    }
}
