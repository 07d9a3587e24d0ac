import java.lang.reflect.InvocationTargetException;
import java.lang.reflect.Method;

/** Houses in which all that can be told is told; calls are written as "loss 0 2 11" here. */
final class Houses {
    // Three persons, two layers, two claims; terms of 3 and 2 life years.
    private static final String[] FURNISHING = {
        "chances 0 1 1 1 3", "chances 1 1 1 0 2", "chances 2 2 3 5 10",
        "person 0 0 4 8", "person 1 2 6 12", "person 2 3 1 9", "bound 0 2",
        "layer 4 2", "layer 9 3", "load 1 3", "tail 1 5", "till 9 5", "year 2 0 1",
        "table 0 0 10 5 20", "table 0 1 20 10 30", "table 1 0 0 10 0",
        "policy 0 3 50 20 10", "policy 1 2 30 0 40", "interest 10",
        "rate 0 200", "rate 4 60", "harm 1 4 40 2",
        "claim 0 10 20 30", "claim 1 20 5 7", "bears 1 40", "bears 3 9", "contract 1 2 3",
        "knock"};

    private Houses() {
    }

    static Poolward furnished() {
        return furnish(new Poolward());
    }

    static Model furnishedModel() {
        return furnish(new Model());
    }

    private static <T> T furnish(T house) {
        for (String call : FURNISHING) {
            answer(house, call);
        }
        return house;
    }

    /** The answer of a call that is written so, on the class or on the model. */
    static Object answer(Object house, String call) {
        String[] words = call.split(" ");
        Method method = methodOf(house, words[0]);
        Class<?>[] types = method.getParameterTypes();
        Object[] numbers = new Object[types.length];
        for (int i = 0; i < types.length; i++) {
            int number = Integer.parseInt(words[i + 1]);
            numbers[i] = types[i] == boolean.class ? (Object) (number == 1) : number;
        }
        return Check.answerOf(() -> invoke(method, house, numbers));
    }

    private static Method methodOf(Object house, String name) {
        for (Method method : house.getClass().getMethods()) {
            if (method.getName().equals(name)) {
                return method;
            }
        }
        throw new AssertionError("no method " + name);
    }

    private static Object invoke(Method method, Object house, Object[] numbers) {
        try {
            return method.invoke(house, numbers);
        } catch (InvocationTargetException e) {
            if (e.getCause() instanceof RuntimeException) {
                throw (RuntimeException) e.getCause();
            }
            throw new AssertionError(e.getCause());
        } catch (IllegalAccessException e) {
            throw new AssertionError(e);
        }
    }
}
