import java.lang.reflect.InvocationTargetException;
import java.lang.reflect.Method;
import java.lang.reflect.Modifier;
import java.util.ArrayList;
import java.util.Arrays;
import java.util.HashMap;
import java.util.List;
import java.util.Map;
import java.util.Random;

/**
 * Long runs of calls, drawn with fixed seeds, on the class and on the model: all answers and all
 * exceptions are to be the same. With arguments it runs the seeds from the first to the second.
 */
public final class ModelTest {
    // Of each parameter the least and the greatest ordinary number; P, S, L and T stand for
    // persons, sets of them, layers and the term, whose ends hang on the house.
    private static final String[] RANGES = {
        "chances 0-2 0-60 0-60 0-60 0-60", "person 0-2 0-12 0-12 0-12", "loss P 0-2 0-12",
        "bound P 0-12", "layer 0-59 1-60", "unlayer L", "load 0-99 0-99", "tail 0-99 0-99",
        "till 0-60 0-12", "year 0-2 0-2 0-2", "table 0-1 0-5 0-100 0-100 0-100",
        "policy 0-1 1-6 0-99 0-99 0-99", "interest 0-50", "rate 0-4 0-300",
        "harm 0-99 0-99 0-500 1-4", "claim P 0-99 0-99 1-99", "bears 0-3 0-99",
        "contract 0-3 0-3 0-10", "undo", "knock", "chance 0-2 0-2 0-2", "hit 0-2 0-2 0-2",
        "sum S 0-4 0-2 0-2 0-2", "law S 0-4", "mean S 0-4", "spread S 0-4", "atMost S 0-4 0-60",
        "mark S 0-4 0-99 0-99", "worst S 0-4 0-99 0-99", "price S 0-3", "share S P 0-3",
        "sharing S 0-3", "gain P 0-2 0-12 0-3", "ruin 0-60 0-12 1-3", "least 0-12 1-3 0-99 0-99",
        "premium 0-1", "putBy 0-1 T 0-1", "life 0-1 0-6 0-2", "two 0-6 0-1 0-1", "longRun 0-4",
        "meanRate", "cost 0-4 0-6", "hurdle 0-4 0-6", "pays 0-4 0-6", "queue 0-99", "run 0-3 0-3",
        "growth 0-2 0-3", "toCome 0-3 0-3", "tenths 0-3 0-3", "pool 0-3 0-2", "owes",
        "ofPerson P 0-6", "house 0-9", "isSound", "digest"};

    private static final int[] FAR = {
        -1, -2, 61, 100, 101, 301, 501, 1000, Integer.MIN_VALUE, Integer.MAX_VALUE, 1 << 30, 32};
    private static final int[] BOTTOMS = {1, 2, 3, 4, 5, 6, 12, 20, 59, 60, 53, 48};

    private final Random random;
    private final Check check;
    private final Map<String, Method> ofClass = new HashMap<>();
    private final Map<String, Method> ofModel = new HashMap<>();
    private final List<String> lines = new ArrayList<>();
    private Poolward house;
    private Model model;

    private ModelTest(long seed, Check check) {
        this.random = new Random(seed);
        this.check = check;
        gatherMethods(Poolward.class, ofClass);
        gatherMethods(Model.class, ofModel);
    }

    private static void gatherMethods(Class<?> from, Map<String, Method> to) {
        for (Method method : from.getDeclaredMethods()) {
            if (Modifier.isPublic(method.getModifiers())) {
                to.put(method.getName(), method);
            }
        }
    }

    public static void main(String[] args) {
        int first = args.length > 1 ? Integer.parseInt(args[0]) : 1;
        int last = args.length > 1 ? Integer.parseInt(args[1]) : 120;
        Check check = new Check();
        for (int seed = first; seed <= last && check.wrong() == 0; seed++) {
            check.part("seed " + seed);
            new ModelTest(seed, check).play(150 + seed % 3 * 100);
        }
        check.finish();
    }

    private void play(int calls) {
        house = new Poolward();
        model = new Model();
        for (String spec : RANGES) {
            lines.add(spec);
        }
        for (int i = 0; i < calls && check.wrong() == 0; i++) {
            String[] spec = lines.get(drawLine(i)).split(" ");
            Object[] drawn = draw(spec);
            Object want = answer(ofModel.get(spec[0]), model, drawn);
            Object got = answer(ofClass.get(spec[0]), house, drawn);
            if (!want.equals(got)) {
                System.out.println("call " + i + ": " + spec[0] + Arrays.toString(drawn));
            }
            check.due(want, got);
        }
    }

    /** A house is furnished first; then all calls come, changes more often. */
    private int drawLine(int i) {
        if (i < 12) {
            return random.nextInt(8);
        }
        return random.nextInt(3) == 0 ? random.nextInt(18) : random.nextInt(lines.size());
    }

    private Object[] draw(String[] spec) {
        int[] numbers = new int[spec.length - 1];
        for (int i = 0; i < numbers.length; i++) {
            numbers[i] = drawNumber(spec[i + 1]);
        }
        makeLikely(spec[0], numbers);
        if (numbers.length > 0 && random.nextInt(25) == 0) {
            numbers[random.nextInt(numbers.length)] = FAR[random.nextInt(FAR.length)];
        }
        Class<?>[] types = ofClass.get(spec[0]).getParameterTypes();
        Object[] drawn = new Object[numbers.length];
        for (int i = 0; i < numbers.length; i++) {
            drawn[i] = types[i] == boolean.class ? (Object) (numbers[i] == 1) : numbers[i];
        }
        return drawn;
    }

    private int drawNumber(String range) {
        switch (range) {
            case "P": return random.nextInt(Math.max(1, model.house(0)));
            case "S": return random.nextInt(1 << model.house(0));
            case "L": return random.nextInt(Math.max(1, model.house(1)));
            case "T": return random.nextInt(7);
            default:
                String[] ends = range.split("-");
                int least = Integer.parseInt(ends[0]);
                int most = Integer.parseInt(ends[1]);
                int kind = random.nextInt(6);
                return kind == 0 ? least : kind == 1 ? most
                        : least + random.nextInt(most - least + 1);
        }
    }

    /** So that calls with numbers that must fit together are done more often than refused. */
    private void makeLikely(String name, int[] n) {
        if (random.nextInt(8) == 0) {
            return;
        }
        switch (name) {
            case "chances":
                n[4] = BOTTOMS[random.nextInt(BOTTOMS.length)];
                n[1] = random.nextInt(n[4] + 1);
                n[2] = random.nextInt(n[4] - n[1] + 1);
                n[3] = n[4] - n[1] - n[2];
                break;
            case "layer":
                n[0] = random.nextInt(25);
                n[1] = 1 + random.nextInt(8);
                break;
            case "load": case "tail":
                n[1] = 1 + random.nextInt(random.nextBoolean() ? 6 : 99);
                n[0] = random.nextInt(n[1] + 1);
                break;
            case "harm":
                n[1] = 1 + random.nextInt(random.nextBoolean() ? 6 : 99);
                n[0] = random.nextInt(n[1] + 1);
                break;
            case "mark": case "worst":
                n[3] = 1 + random.nextInt(99);
                n[2] = 1 + random.nextInt(n[3]);
                break;
            case "table":
                n[3] = random.nextInt(101 - n[2]);
                break;
            case "claim":
                n[2] = random.nextInt(100 - n[1]);
                break;
            case "contract":
                n[2] = random.nextInt(2) * (random.nextBoolean() ? 10 : random.nextInt(11));
                break;
            case "toCome":
                n[1] = n[0] + random.nextInt(4 - n[0]);
                break;
            case "share":
                n[0] |= 1 << n[1];
                break;
            case "sharing":
                n[0] = drawTwoOrThree();
                break;
            default:
        }
    }

    private int drawTwoOrThree() {
        int set = random.nextInt(1 << model.house(0));
        for (int i = 0; i < 50 && (Integer.bitCount(set) < 2 || Integer.bitCount(set) > 3); i++) {
            set = random.nextInt(1 << model.house(0));
        }
        return set;
    }

    private static Object answer(Method method, Object object, Object[] drawn) {
        return Check.answerOf(() -> {
            try {
                return method.invoke(object, drawn);
            } catch (InvocationTargetException e) {
                if (e.getCause() instanceof RuntimeException) {
                    throw (RuntimeException) e.getCause();
                }
                throw new IllegalStateException(e.getCause());
            } catch (IllegalAccessException e) {
                throw new AssertionError(e);
            }
        });
    }
}
