import java.lang.reflect.Constructor;
import java.lang.reflect.Member;
import java.lang.reflect.Method;
import java.lang.reflect.Modifier;
import java.nio.file.Files;
import java.nio.file.Path;
import java.util.ArrayList;
import java.util.Arrays;
import java.util.List;
import java.util.Set;
import java.util.TreeSet;
import java.util.regex.Matcher;
import java.util.regex.Pattern;

/** The face is that of the document, and the source keeps to the rules that a text can show. */
public final class FaceTest {
    private static final Path DOCUMENT = Path.of("../shared/DOC.md");
    private static final Path SOURCE = Path.of("src/main/java/Poolward.java");
    private static final String[] RULED_OUT = {
        "->", "::", "finally", "synchronized", "assert ", "Exact(", "System.out", "System.nano",
        "System.current", "Random", "package ", "HashMap", "Thread", "getMessage"};
    // What the machine throws, and the classes above that.
    private static final String[] NEVER_CAUGHT = {
        "ArrayIndexOutOfBoundsException", "NullPointerException", "ArithmeticException",
        "ClassCastException", "NegativeArraySizeException", "ArrayStoreException",
        "IndexOutOfBoundsException", "RuntimeException", "Exception", "Throwable", "Error"};

    private static final Check check = new Check();

    private FaceTest() {
    }

    public static void main(String[] args) throws Exception {
        face();
        members();
        nested();
        source();
        methodLengths();
        check.finish();
    }

    private static void face() throws Exception {
        check.part("the face");
        String text = Files.readString(DOCUMENT);
        int begin = text.indexOf("public final class Poolward {");
        String block = text.substring(begin, text.indexOf("```", begin));
        Set<String> due = new TreeSet<>();
        Matcher m = Pattern.compile("public (\\S+ )?(\\w+)\\((.*?)\\)(?: throws (.*?))?;")
                .matcher(block);
        while (m.find()) {
            String kind = m.group(1) == null ? "" : m.group(1);
            due.add(kind + m.group(2) + typesOf(m.group(3)) + sorted(m.group(4)));
        }
        Set<String> got = new TreeSet<>();
        for (Method method : Poolward.class.getDeclaredMethods()) {
            if (Modifier.isPublic(method.getModifiers())) {
                got.add(method.getReturnType().getSimpleName() + " " + method.getName()
                        + namesOf(method.getParameterTypes())
                        + sorted(String.join(", ", names(method.getExceptionTypes()))));
            }
        }
        for (Constructor<?> constructor : Poolward.class.getConstructors()) {
            got.add("Poolward" + namesOf(constructor.getParameterTypes()) + sorted(null));
        }
        check.due(56, due.size());
        check.due(due.toString(), got.toString());
        check.due(true, Modifier.isFinal(Poolward.class.getModifiers()));
    }

    private static String typesOf(String parameters) {
        List<String> types = new ArrayList<>();
        for (String parameter : parameters.split(", ")) {
            if (!parameter.isEmpty()) {
                types.add(parameter.split(" ")[0]);
            }
        }
        return types.toString();
    }

    private static List<String> names(Class<?>[] types) {
        List<String> names = new ArrayList<>();
        for (Class<?> type : types) {
            names.add(type.getSimpleName());
        }
        return names;
    }

    private static String namesOf(Class<?>[] types) {
        return names(types).toString();
    }

    private static String sorted(String exceptions) {
        if (exceptions == null || exceptions.isEmpty()) {
            return "";
        }
        String[] parts = exceptions.split(", ");
        Arrays.sort(parts);
        return Arrays.toString(parts);
    }

    private static Set<String> faceNames() {
        Set<String> names = new TreeSet<>();
        for (Method method : Poolward.class.getDeclaredMethods()) {
            if (Modifier.isPublic(method.getModifiers())) {
                names.add(method.getName());
            }
        }
        return names;
    }

    private static void members() {
        check.part("members");
        List<Member> members = new ArrayList<>(List.of(Poolward.class.getDeclaredFields()));
        members.addAll(List.of(Poolward.class.getDeclaredMethods()));
        for (Member member : members) {
            boolean isPrivate = Modifier.isPrivate(member.getModifiers());
            boolean isFace = member instanceof Method && Modifier.isPublic(member.getModifiers());
            check.due(member + " seen: false", member + " seen: " + !(isPrivate || isFace));
            boolean isNamedSo = isPrivate && member instanceof Method
                    && faceNames().contains(member.getName());
            check.due(member + " named as the face: false", member + " named as the face: "
                    + isNamedSo);
        }
    }

    private static void nested() {
        check.part("nested");
        for (Class<?> type : Poolward.class.getDeclaredClasses()) {
            check.due(true, Modifier.isStatic(type.getModifiers()));
            check.due(false, Modifier.isPublic(type.getModifiers()));
            for (Method method : type.getDeclaredMethods()) {
                check.due(method + " false", method + " " + faceNames().contains(method.getName()));
            }
        }
    }

    private static void source() throws Exception {
        check.part("source");
        String code = Files.readString(SOURCE);
        for (String out : RULED_OUT) {
            check.due(out + " -1", out + " " + code.indexOf(out));
        }
        for (String caught : NEVER_CAUGHT) {
            check.due(caught + " -1", caught + " " + code.indexOf("catch (" + caught));
        }
        for (char sign : code.toCharArray()) {
            check.due(true, sign == '\n' || sign >= ' ' && sign < 127);
        }
    }

    private static void methodLengths() throws Exception {
        check.part("method lengths");
        List<String> lines = Files.readAllLines(SOURCE);
        int begin = -1;
        for (int i = 0; i < lines.size(); i++) {
            String line = lines.get(i);
            String inner = line.trim();
            int indent = line.length() - line.stripLeading().length();
            if (indent <= 8 && inner.endsWith("{") && inner.contains("(")) {
                begin = i;
            }
            if (indent <= 8 && inner.equals("}") && begin >= 0) {
                check.due("line " + begin + " true", "line " + begin + " " + (i - begin < 60));
                begin = -1;
            }
        }
    }
}
