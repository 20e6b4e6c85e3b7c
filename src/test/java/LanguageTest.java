import java.io.IOException;
import java.lang.reflect.Field;
import java.lang.reflect.Method;
import java.lang.reflect.Modifier;
import java.nio.file.Files;
import java.nio.file.Path;
import java.util.ArrayList;
import java.util.HashSet;
import java.util.LinkedHashMap;
import java.util.List;
import java.util.Map;
import java.util.Set;
import java.util.regex.Matcher;
import java.util.regex.Pattern;

/**
 * What can be seen of LANGUAGE.md's rules in the words of PulseRows.java and in its compiled classes. The rules allow
 * more than this class needs, so some of these are narrower than the rule that they are of.
 */
public final class LanguageTest {
    private static final Path SOURCE = Path.of("src/main/java/PulseRows.java");

    private static final Set<String> WORDS_NOT_USED = Set.of("package", "import", "protected", "synchronized", "assert",
        "try", "catch", "finally", "native", "volatile", "transient", "strictfp", "instanceof", "double", "float");
    private static final Set<String> LIBRARY = Set.of("String", "StringBuilder", "Integer", "Long", "Math");
    private static final Set<String> FUNCTIONS = Set.of("abs", "bitCount", "compare", "floorDiv", "floorMod", "max",
        "min");
    /** Rule 6's, and the one that promise 3 names. */
    private static final Set<String> EXCEPTIONS = Set.of("IllegalStateException", "IllegalArgumentException",
        "IndexOutOfBoundsException", "ArithmeticException", "UnsupportedOperationException", "NoSuchElementException",
        "RuntimeException", "ArrayIndexOutOfBoundsException");

    private static final Pattern METHOD = Pattern.compile(
        "(?m)^ +(?:public |private )?(?:static )?(?:\\w+(?:\\[\\])? )?(\\w+)\\([^()]*\\)(?: throws \\w+)? \\{$");

    public static void main(String[] args) throws IOException {
        String code = withoutCommentsAndTexts(Files.readString(SOURCE));
        List<Class<?>> classes = new ArrayList<>(List.of(PulseRows.class.getDeclaredClasses()));
        classes.add(PulseRows.class);
        namesOfMethods(classes);
        noWordsOutsideTheRules(code);
        namesOfTheLibrary(code, classes);
        staticFields(classes);
        exceptions(code);
        loopsHaveAnEnd(code);
        sizes(code, classes);
        depthOfCalls(code);
        Due.end();
    }

    /** Texts become "" and comments go, so that no word in them counts; the lines stay. */
    private static String withoutCommentsAndTexts(String source) {
        String withoutTexts = source.replaceAll("\"(?:[^\"\\\\\n]|\\\\.)*\"", "\"\"");
        String withoutLines = withoutTexts.replaceAll("//[^\n]*", "");
        Matcher block = Pattern.compile("(?s)/\\*.*?\\*/").matcher(withoutLines);
        return block.replaceAll(found -> found.group().replaceAll("[^\n]", ""));
    }

    private static void namesOfMethods(List<Class<?>> classes) {
        Due.sentence("rule 1: \"No private method bears the name of a public one\"");
        Set<String> face = new HashSet<>();
        for (Method m : PulseRows.class.getDeclaredMethods()) {
            if (Modifier.isPublic(m.getModifiers())) {
                face.add(m.getName());
            }
        }
        Due.is("methods of the face", face.size(), 11);
        for (Class<?> c : classes) {
            for (Method m : c.getDeclaredMethods()) {
                boolean shown = Modifier.isPublic(m.getModifiers());
                Due.is(m + " bears the name of a public one", !shown && face.contains(m.getName()), false);
            }
        }
    }

    private static void noWordsOutsideTheRules(String code) {
        Due.sentence("rules 2, 5, 6: no lambda, no method reference, no static block, no try, no import");
        Matcher word = Pattern.compile("\\b[a-z]+\\b").matcher(code);
        while (word.find()) {
            Due.is("the word " + word.group() + " is used", WORDS_NOT_USED.contains(word.group()), false);
        }
        Due.is("-> is used", code.contains("->"), false);
        Due.is(":: is used", code.contains("::"), false);
        Due.is("a static block is used", Pattern.compile("\\bstatic\\s*\\{").matcher(code).find(), false);
        Due.is("a text is joined by +", code.contains("\"\" +") || code.contains("+ \"\""), false);
    }

    private static void namesOfTheLibrary(String code, List<Class<?>> classes) {
        Due.sentence("rules 3, 4: own classes, listed ones, \"none of those whose name ends in Exact\"");
        Set<String> own = new HashSet<>();
        for (Class<?> c : classes) {
            own.add(c.getSimpleName());
        }
        Matcher name = Pattern.compile("\\b[A-Z]\\w*[a-z]\\w*").matcher(code);
        while (name.find()) {
            String n = name.group();
            Due.is(n + " is known", own.contains(n) || LIBRARY.contains(n) || EXCEPTIONS.contains(n), true);
        }
        Matcher function = Pattern.compile("\\b(?:Math|Integer|Long)\\.(\\w+)").matcher(code);
        while (function.find()) {
            Due.is(function.group() + " is one over int and long", FUNCTIONS.contains(function.group(1)), true);
        }
    }

    private static void staticFields(List<Class<?>> classes) {
        Due.sentence("rule 5: \"Static fields are final\", constants or arrays of numbers written out");
        Set<Class<?>> types = Set.of(int.class, long.class, boolean.class, char.class, String.class, int[].class,
            long[].class, char[].class, byte[].class);
        for (Class<?> c : classes) {
            for (Field f : c.getDeclaredFields()) {
                if (Modifier.isStatic(f.getModifiers())) {
                    Due.is(f + " is final", Modifier.isFinal(f.getModifiers()), true);
                    Due.is(f + " is of a type that is allowed", types.contains(f.getType()), true);
                }
            }
        }
    }

    private static void exceptions(String code) {
        Due.sentence("rule 6: \"throw new E() or throw new E(\"a written text\")\"");
        Matcher thrown = Pattern.compile("\\bthrow\\b([^;]*);").matcher(code);
        int count = 0;
        while (thrown.find()) {
            count++;
            Matcher form = Pattern.compile(" new (\\w+)\\((?:\"\")?\\)").matcher(thrown.group(1));
            Due.is("throw" + thrown.group(1), form.matches() && EXCEPTIONS.contains(form.group(1)), true);
        }
        Due.is("throw statements: those of nibble and of calibrate", count, 2);
        Map<String, String> bodies = bodies(code);
        Due.is("nibble throws by a throw", bodies.get("nibble").contains("throw new "), true);
        Due.is("calibrate throws by a throw", bodies.get("calibrate").contains("throw new "), true);
    }

    private static void loopsHaveAnEnd(String code) {
        Due.sentence("rule 9: \"Every loop has an end that can be seen from its own lines\"");
        // A counter against a bound; shifts and signs of a generic class have other neighbours.
        Pattern bound = Pattern.compile(" [<>]=? ");
        Matcher loop = Pattern.compile("\\b(?:for|while)\\b([^{]*)\\{").matcher(code);
        while (loop.find()) {
            Due.is("a bound in " + loop.group(), bound.matcher(loop.group(1)).find(), true);
        }
    }

    private static void sizes(String code, List<Class<?>> classes) {
        Due.sentence("rule 11: \"at most seven parameters\", sixty lines, twelve classes, twenty fields");
        Due.is("at most twelve classes", classes.size() <= 12, true);
        for (Class<?> c : classes) {
            int fields = 0;
            for (Field f : c.getDeclaredFields()) {
                fields += Modifier.isStatic(f.getModifiers()) ? 0 : 1;
            }
            Due.is("at most twenty fields in " + c, fields <= 20, true);
            for (Method m : c.getDeclaredMethods()) {
                Due.is("at most seven parameters of " + m, m.getParameterCount() <= 7, true);
            }
        }
        for (Map.Entry<String, String> method : bodies(code).entrySet()) {
            Due.is("at most sixty lines in " + method.getKey(), method.getValue().lines().count() <= 60, true);
        }
    }

    private static void depthOfCalls(String code) {
        Due.sentence("rule 11: \"calls that are no recursion go at most eight deep\"");
        Map<String, String> bodies = bodies(code);
        for (String name : bodies.keySet()) {
            Due.is("at most eight deep from " + name, depth(name, bodies, 1) <= 8, true);
        }
    }

    /** A call of itself, straight or by others, goes deeper than any bound here. */
    private static int depth(String name, Map<String, String> bodies, int level) {
        int deepest = level;
        if (level > 20) {
            return level;
        }
        Matcher call = Pattern.compile("\\b(\\w+)\\(").matcher(bodies.get(name));
        while (call.find()) {
            if (bodies.containsKey(call.group(1))) {
                deepest = Math.max(deepest, depth(call.group(1), bodies, level + 1));
            }
        }
        return deepest;
    }

    /** The methods and constructors of all classes, by their names, with what stands between their braces. */
    private static Map<String, String> bodies(String code) {
        Map<String, String> bodies = new LinkedHashMap<>();
        Matcher method = METHOD.matcher(code);
        while (method.find()) {
            String before = bodies.put(method.group(1), block(code, method.end()));
            if (before != null) {
                Due.note("two methods are named " + method.group(1) + ", so this test can't part them");
            }
        }
        return bodies;
    }

    private static String block(String code, int start) {
        int open = 1;
        int end = start;
        while (end < code.length() && open > 0) {
            char c = code.charAt(end);
            open += c == '{' ? 1 : c == '}' ? -1 : 0;
            end++;
        }
        return code.substring(start, end);
    }
}
