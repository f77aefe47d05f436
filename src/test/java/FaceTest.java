import java.io.IOException;
import java.lang.reflect.Constructor;
import java.lang.reflect.Field;
import java.lang.reflect.Method;
import java.lang.reflect.Modifier;
import java.nio.file.Files;
import java.nio.file.Path;
import java.util.ArrayList;
import java.util.Arrays;
import java.util.List;
import java.util.Map;
import java.util.Set;
import java.util.TreeMap;
import java.util.TreeSet;
import java.util.regex.Matcher;
import java.util.regex.Pattern;
import java.util.stream.Collectors;

/** The class has the document's face and keeps to what of LANGUAGE.md can be looked up. */
public final class FaceTest {
    private static final Set<String> TYPES = Set.of("String", "Math", "Integer", "FireSale");
    private static final Set<String> MATH = Set.of("min", "max", "abs");
    private static final String[] WORDS = {"import", "package", "try", "catch", "finally", "throw",
        "throws", "synchronized", "assert", "instanceof", "native", "volatile", "var", "Object",
        "record", "protected"};

    private static List<Class<?>> classes() {
        List<Class<?>> all = new ArrayList<>(List.of(FireSale.class));
        all.addAll(Arrays.asList(FireSale.class.getDeclaredClasses()));
        return all;
    }

    private static String told(Method m) {
        String types = Arrays.stream(m.getParameterTypes()).map(Class::getName)
                .collect(Collectors.joining(","));
        return m.getReturnType().getName() + " " + m.getName() + "(" + types + ")";
    }

    private static void face(String document) {
        Set<String> due = new TreeSet<>();
        Matcher m = Pattern.compile("(?m)^    public (int|long) (\\w+)\\((.*)\\);").matcher(document);
        while (m.find()) {
            String types = Arrays.stream(m.group(3).split(", *")).filter(s -> !s.isEmpty())
                    .map(s -> s.split(" ")[0]).collect(Collectors.joining(","));
            due.add(m.group(1) + " " + m.group(2) + "(" + types + ")");
        }
        Check.due("methods in the document", due.size(), 55);
        Set<String> got = new TreeSet<>();
        Set<String> names = new TreeSet<>();
        for (Method method : FireSale.class.getDeclaredMethods()) {
            if (Modifier.isPublic(method.getModifiers())) {
                got.add(told(method));
                names.add(method.getName());
            }
        }
        Check.dueText("the face", got.toString(), due.toString());
        for (Class<?> c : classes()) {
            for (Method method : c.getDeclaredMethods()) {
                if (c != FireSale.class || !Modifier.isPublic(method.getModifiers())) {
                    Check.due("name of " + method, names.contains(method.getName()) ? 1 : 0, 0);
                }
            }
        }
    }

    private static void members() throws IllegalAccessException {
        int modifiers = FireSale.class.getModifiers();
        Check.due("public, final", Modifier.isPublic(modifiers) && Modifier.isFinal(modifiers)
                ? 1 : 0, 1);
        for (Method m : FireSale.class.getDeclaredMethods()) {
            Check.due("public or private: " + m, Modifier.isPublic(m.getModifiers())
                    || Modifier.isPrivate(m.getModifiers()) ? 1 : 0, 1);
        }
        for (Field f : FireSale.class.getDeclaredFields()) {
            Check.due("private but for NONE: " + f, Modifier.isPrivate(f.getModifiers()) ? 1 : 0,
                    f.getName().equals("NONE") ? 0 : 1);
        }
        Constructor<?>[] constructors = FireSale.class.getDeclaredConstructors();
        Check.due("constructors", constructors.length, 1);
        Check.due("parameters", constructors[0].getParameterCount(), 0);
        for (Class<?> c : FireSale.class.getDeclaredClasses()) {
            Check.due("static: " + c, Modifier.isStatic(c.getModifiers()) ? 1 : 0, 1);
            Check.due("not public: " + c, Modifier.isPublic(c.getModifiers()) ? 1 : 0, 0);
        }
    }

    private static void sizes() {
        Check.due("twelve classes at most", classes().size() <= 12 ? 1 : 0, 1);
        for (Class<?> c : classes()) {
            int fields = 0;
            for (Field f : c.getDeclaredFields()) {
                boolean isStatic = Modifier.isStatic(f.getModifiers());
                fields += isStatic ? 0 : 1;
                if (isStatic) {
                    Check.due("final: " + f, Modifier.isFinal(f.getModifiers()) ? 1 : 0, 1);
                }
            }
            Check.due("twenty fields at most: " + c, fields <= 20 ? 1 : 0, 1);
            for (Method m : c.getDeclaredMethods()) {
                Check.due("seven parameters at most: " + m, m.getParameterCount() <= 7 ? 1 : 0, 1);
            }
        }
    }

    private static String bare(String source) {
        return source.replaceAll("(?s)/\\*.*?\\*/", "").replaceAll("//[^\n]*", "")
                .replaceAll("\"[^\"\n]*\"", "\"\"").replaceAll("'\\\\?.'", "' '");
    }

    private static void language(String source) {
        String code = bare(source);
        for (String word : WORDS) {
            Check.due("no " + word, Pattern.compile("\\b" + word + "\\b").matcher(code).find()
                    ? 1 : 0, 0);
        }
        Check.due("no lambda, no reference", code.contains("->") || code.contains("::") ? 1 : 0, 0);
        Check.due("no texts joined by +", code.contains("\"\" +") || code.contains("+ \"\"")
                ? 1 : 0, 0);
        Set<String> own = new TreeSet<>(TYPES);
        for (Class<?> c : classes()) {
            own.add(c.getSimpleName());
        }
        Matcher types = Pattern.compile("\\b[A-Z]\\w*[a-z]\\w*").matcher(code);
        while (types.find()) {
            Check.due("type " + types.group(), own.contains(types.group()) ? 1 : 0, 1);
        }
        Matcher math = Pattern.compile("\\bMath\\.(\\w+)").matcher(code);
        while (math.find()) {
            Check.due("Math." + math.group(1), MATH.contains(math.group(1)) ? 1 : 0, 1);
        }
        int since = 0;
        String[] lines = source.split("\n");
        for (int i = 0; i < lines.length; i++) {
            if (lines[i].matches(" {4}( {4})?\\w.*\\{") && !lines[i].contains(" class ")) {
                since = i;
            }
            if (lines[i].matches(" {4}( {4})?\\}")) {
                Check.due("lines up to " + i, i - since <= 60 || lines[i].length() == 5 ? 1 : 0, 1);
            }
            Check.due("width of line " + (i + 1), lines[i].length() <= 100 ? 1 : 0, 1);
        }
    }

    /** Each method's name with the names that its lines call; like names count as one. */
    private static Map<String, Set<String>> calls(String code) {
        Map<String, Set<String>> all = new TreeMap<>();
        String indent = null;
        String name = "";
        for (String line : code.split("\n")) {
            Matcher head = Pattern.compile("( {4,8})[\\w ]*[\\w\\]] (\\w+)\\(.*\\) \\{")
                    .matcher(line);
            if (indent == null && head.matches()) {
                indent = head.group(1);
                name = head.group(2);
                all.putIfAbsent(name, new TreeSet<>());
            } else if (indent != null && line.equals(indent + "}")) {
                indent = null;
            } else if (indent != null) {
                Matcher call = Pattern.compile("\\b(\\w+)\\(").matcher(line);
                while (call.find()) {
                    all.get(name).add(call.group(1));
                }
            }
        }
        return all;
    }

    /** How many calls stand open at once at most; more than ever for one that calls itself. */
    private static int depth(Map<String, Set<String>> calls, String name, int open) {
        int most = 1;
        for (String called : calls.getOrDefault(name, Set.of())) {
            if (open < 50 && !Set.of("if", "for", "while", "switch").contains(called)) {
                most = Math.max(most, 1 + depth(calls, called, open + 1));
            }
        }
        return most;
    }

    private static void depths(String source) {
        Map<String, Set<String>> calls = calls(bare(source));
        for (Class<?> c : classes()) {
            for (Method m : c.getDeclaredMethods()) {
                Check.due("is found: " + m, calls.containsKey(m.getName()) ? 1 : 0, 1);
            }
        }
        for (String name : calls.keySet()) {
            int depth = depth(calls, name, 1);
            Check.due("eight deep at most: " + name + " is " + depth, depth <= 8 ? 1 : 0, 1);
        }
    }

    public static void main(String[] args) throws IOException, IllegalAccessException {
        face(Files.readString(Path.of(System.getProperty("shared"), "DOC.md")));
        members();
        sizes();
        String source = Files.readString(Path.of(System.getProperty("main")));
        language(source);
        depths(source);
        Check.end();
    }
}
