import java.util.Objects;

/** Counts what is not as it is due, and tells it; a test's main ends with finish(). */
final class Check {
    private static final String[] EXCEPTIONS = {
        "IndexOutOfBoundsException", "IllegalArgumentException", "IllegalStateException"
    };

    /** A call that answers something, or throws. */
    interface Call {
        Object answer();
    }

    private int wrong;
    private int asked;
    private String part = "";

    void part(String name) {
        part = name;
    }

    void due(Object want, Object got) {
        asked++;
        if (!Objects.equals(want, got)) {
            wrong++;
            System.out.println(part + ": answered " + got + ", due is " + want);
        }
    }

    void throwsIndex(Call call) {
        due("throws.IndexOutOfBoundsException", answerOf(call));
    }

    void throwsArgument(Call call) {
        due("throws.IllegalArgumentException", answerOf(call));
    }

    void throwsState(Call call) {
        due("throws.IllegalStateException", answerOf(call));
    }

    /** Only the very exceptions of the face, not one of a class below them. */
    static Object answerOf(Call call) {
        try {
            return call.answer();
        } catch (RuntimeException e) {
            String name = e.getClass().getSimpleName();
            for (String known : EXCEPTIONS) {
                if (known.equals(name)) {
                    return "throws." + name;
                }
            }
            return "throws something else: " + e;
        }
    }

    int wrong() {
        return wrong;
    }

    int asked() {
        return asked;
    }

    void finish() {
        System.out.println(asked + " asked, " + wrong + " wrong");
        if (wrong > 0) {
            System.exit(1);
        }
    }
}
