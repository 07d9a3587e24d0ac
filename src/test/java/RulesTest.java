import java.lang.reflect.Field;
import java.lang.reflect.Modifier;
import java.util.ArrayList;
import java.util.Arrays;
import java.util.HashMap;
import java.util.HashSet;
import java.util.List;
import java.util.Map;
import java.util.Set;

/** What ../shared/LANGUAGE.md rules and the compiled class can show, rule by rule. */
public final class RulesTest {
    private static final int DEEPEST = 8;
    private static final int MOST_CLASSES = 12;
    private static final int MOST_FIELDS = 20;
    private static final int MOST_PARAMETERS = 7;

    // Of what rule 4 lets, all but the lists, which the class does without.
    private static final Set<String> LIBRARY = Set.of(
            "java/lang/Object.<init>", "java/lang/Enum.<init>", "java/lang/String.length",
            "java/lang/String.charAt", "java/lang/String.isEmpty", "java/lang/String.equals",
            "java/lang/String.indexOf", "java/lang/String.substring",
            "java/lang/String.toCharArray", "java/lang/String.<init>",
            "java/lang/StringBuilder.<init>", "java/lang/StringBuilder.append",
            "java/lang/StringBuilder.charAt", "java/lang/StringBuilder.setCharAt",
            "java/lang/StringBuilder.setLength", "java/lang/StringBuilder.deleteCharAt",
            "java/lang/StringBuilder.reverse", "java/lang/StringBuilder.length",
            "java/lang/StringBuilder.toString", "java/lang/System.arraycopy",
            "java/util/Arrays.copyOf", "java/util/Arrays.copyOfRange", "java/util/Arrays.fill",
            "java/lang/Integer.compare", "java/lang/Integer.bitCount", "java/lang/Long.compare",
            "java/lang/Long.bitCount", "java/lang/Math.max", "java/lang/Math.min",
            "java/lang/Math.abs", "java/lang/Math.floorDiv", "java/lang/Math.floorMod");
    private static final Set<String> APPENDED = Set.of("C", "I", "Ljava/lang/String;");
    private static final Set<String> THROWN = Set.of(
            "java/lang/IllegalStateException", "java/lang/IllegalArgumentException",
            "java/lang/IndexOutOfBoundsException", "java/lang/ArithmeticException",
            "java/lang/UnsupportedOperationException", "java/util/NoSuchElementException",
            "java/lang/RuntimeException");

    private static final Check check = new Check();
    private static final List<Class<?>> classes = new ArrayList<>();
    private static final Map<String, ClassFile.Code> codes = new HashMap<>();

    private RulesTest() {
    }

    public static void main(String[] args) throws Exception {
        gather(Poolward.class);
        for (Class<?> type : classes) {
            for (ClassFile.Code code : ClassFile.of(type).methods) {
                codes.put(code.name, code);
            }
        }
        fields();
        library();
        statics();
        exceptions();
        sizes();
        depth();
        check.finish();
    }

    private static void gather(Class<?> type) {
        classes.add(type);
        for (Class<?> inner : type.getDeclaredClasses()) {
            gather(inner);
        }
    }

    private static boolean isOwn(String name) {
        return name.equals("Poolward") || name.startsWith("Poolward$")
                || name.startsWith("Poolward.");
    }

    private static void none(String what, List<?> found) {
        check.due(what + " []", what + " " + found);
    }

    private static void fields() {
        check.part("rule 3");
        List<String> others = new ArrayList<>();
        for (Class<?> type : classes) {
            for (Field field : type.getDeclaredFields()) {
                if (!isLet(field.getType(), 2)) {
                    others.add(field.toString());
                }
            }
        }
        none("fields of other types", others);
    }

    private static boolean isLet(Class<?> type, int dimensions) {
        if (type.isArray()) {
            Class<?> part = type.getComponentType();
            boolean isFlat = !part.isArray() || part.getComponentType().isPrimitive();
            return dimensions > 0 && isFlat && isLet(part, dimensions - 1);
        }
        return type.isPrimitive() || isOwn(type.getName())
                || Set.of("java.lang.String", "java.lang.StringBuilder", "java.lang.Integer",
                        "java.util.ArrayList", "java.util.List").contains(type.getName());
    }

    private static void library() {
        check.part("rules 2 and 4");
        List<String> others = new ArrayList<>();
        for (ClassFile.Code code : codes.values()) {
            for (String call : code.calls) {
                if (!isOwn(call) && !isOfLibrary(call)) {
                    others.add(code.name + " calls " + call);
                }
            }
            for (String made : code.made) {
                if (!isOwn(made) && !made.equals("java/lang/StringBuilder")
                        && !THROWN.contains(made)) {
                    others.add(code.name + " makes " + made);
                }
            }
            for (String cast : code.casts) {
                if (!isOwn(cast)) {
                    others.add(code.name + " casts to " + cast);
                }
            }
            if (code.isRuledOut) {
                others.add(code.name + " has a lambda, joins texts by +, or is synchronized");
            }
        }
        none("beyond the library", others);
    }

    private static boolean isOfLibrary(String call) {
        String called = call.substring(0, call.indexOf(':'));
        String taken = call.substring(call.indexOf('(') + 1, call.indexOf(')'));
        if (called.endsWith("Builder.append")) {
            return APPENDED.contains(taken);
        }
        if (called.endsWith(".<init>")) {
            String made = called.substring(0, called.indexOf(".<init>"));
            return LIBRARY.contains(called)
                    || THROWN.contains(made) && Set.of("", "Ljava/lang/String;").contains(taken);
        }
        return LIBRARY.contains(called) && !taken.contains("D") && !taken.contains("F");
    }

    private static void statics() {
        check.part("rule 5");
        List<String> others = new ArrayList<>();
        for (Class<?> type : classes) {
            for (Field field : type.getDeclaredFields()) {
                int modifiers = field.getModifiers();
                if (Modifier.isStatic(modifiers) && !Modifier.isFinal(modifiers)) {
                    others.add(field.toString());
                }
            }
        }
        for (ClassFile.Code code : codes.values()) {
            if (!code.staticsPut.isEmpty() && !code.name.contains(".<clinit>:")) {
                others.add(code.name + " puts " + code.staticsPut);
            }
        }
        none("changing statics", others);
    }

    private static void exceptions() {
        check.part("rule 6");
        List<String> others = new ArrayList<>();
        for (ClassFile.Code code : codes.values()) {
            if (code.isThrowing && code.name.contains("<init>")) {
                others.add(code.name + " throws");
            }
            for (String caught : code.caught) {
                if (!THROWN.contains(caught) || caught.endsWith("/RuntimeException")
                        || caught.endsWith("/IndexOutOfBoundsException")
                        || caught.endsWith("/ArithmeticException") || code.isThrowing) {
                    others.add(code.name + " catches " + caught);
                }
            }
        }
        none("exceptions", others);
    }

    private static void sizes() {
        check.part("rule 11");
        List<String> others = new ArrayList<>();
        check.due(true, classes.size() <= MOST_CLASSES);
        for (Class<?> type : classes) {
            long fields = Arrays.stream(type.getDeclaredFields())
                    .filter(field -> !Modifier.isStatic(field.getModifiers())).count();
            if (fields > MOST_FIELDS) {
                others.add(type + " has " + fields + " fields");
            }
            if (Arrays.stream(type.getDeclaredMethods())
                    .anyMatch(method -> method.getParameterCount() > MOST_PARAMETERS)) {
                others.add(type + " has a method of too many parameters");
            }
        }
        none("too large", others);
    }

    /** Of the class's own methods; one that calls itself, over others or not, is told as such. */
    private static void depth() {
        check.part("rules 8 and 11");
        List<String> others = new ArrayList<>();
        Map<String, Integer> depths = new HashMap<>();
        for (String name : codes.keySet()) {
            int deep = depthOf(name, depths, new HashSet<>(), others);
            if (deep > DEEPEST) {
                others.add(name + " is " + deep + " deep");
            }
        }
        none("calls too deep", others);
        // So that it is seen if nothing is counted at all.
        check.due(true, depths.get("Poolward.digest:()J") > 4);
    }

    private static int depthOf(String name, Map<String, Integer> depths, Set<String> open,
            List<String> others) {
        ClassFile.Code code = codes.get(name);
        if (code == null) {
            return 0;
        }
        if (depths.containsKey(name)) {
            return depths.get(name);
        }
        if (!open.add(name)) {
            others.add(name + " calls itself");
            return 0;
        }
        int deepest = 0;
        for (String call : code.calls) {
            deepest = Math.max(deepest, depthOf(call, depths, open, others));
        }
        open.remove(name);
        depths.put(name, deepest + 1);
        return deepest + 1;
    }
}
