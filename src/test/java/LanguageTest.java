import java.io.IOException;
import java.lang.reflect.Field;
import java.lang.reflect.Method;
import java.lang.reflect.Modifier;
import java.nio.file.Files;
import java.nio.file.Path;
import java.util.ArrayList;
import java.util.List;
import java.util.Set;
import java.util.TreeSet;
import java.util.regex.Matcher;
import java.util.regex.Pattern;

/** The rules of LANGUAGE.md, as far as they can be looked up in the class and in the text of its file. */
public final class LanguageTest extends Due {
    private static final Path FILE = Path.of("src/main/java/TwoWayTexts.java");
    private static final int MOST_CLASSES = 12;
    private static final int MOST_FIELDS = 20;
    private static final int MOST_PARAMETERS = 7;
    private static final int MOST_LINES = 60;
    private static final Set<String> IMPORTS = Set.of("java.util.Arrays", "java.util.ArrayList", "java.util.List",
        "java.util.Iterator");
    private static final Set<String> CONSTANTS = Set.of("int", "long", "boolean", "char", "String", "int[]", "long[]",
        "char[]", "byte[]");
    private static final Set<String> EXCEPTIONS = Set.of("IllegalStateException", "IllegalArgumentException",
        "IndexOutOfBoundsException", "ArithmeticException", "UnsupportedOperationException", "NoSuchElementException",
        "RuntimeException");
    /** What is called by the name of a class of the library. */
    private static final Set<String> STATIC_CALLS = Set.of("System.arraycopy", "Arrays.fill", "Arrays.copyOf",
        "Arrays.copyOfRange", "Math.max", "Math.min", "Math.abs", "Long.bitCount", "Integer.bitCount");

    public static void main(String[] args) throws IOException {
        String code = withoutCommentsAndTexts(Files.readString(FILE));
        sentence("LANGUAGE.md", "rule 1, no package, and classes inside are static and not public", () -> {
            due("a package line", code.contains("package "), false);
            for (Class<?> one : TwoWayTexts.class.getDeclaredClasses()) {
                int modifiers = one.getModifiers();
                due(one + " being static", Modifier.isStatic(modifiers), true);
                due(one + " being public or protected", Modifier.isPublic(modifiers) || Modifier.isProtected(modifiers), false);
            }
        });
        sentence("LANGUAGE.md", "rule 1, no private method bears the name of a public one", LanguageTest::testNames);
        sentence("LANGUAGE.md", "rules 2, 6 and 12, what is not written", () -> testWords(code));
        sentence("LANGUAGE.md", "rules 3 and 5, the types of fields", LanguageTest::testFields);
        sentence("LANGUAGE.md", "rule 4, the library", () -> testLibrary(code));
        sentence("LANGUAGE.md", "rule 6, exceptions", () -> testExceptions(code));
        sentence("LANGUAGE.md", "rule 9, loops have an end", () -> {
            due("while (true)", Pattern.compile("while \\(true\\)|for \\(;;\\)").matcher(code).find(), false);
        });
        sentence("LANGUAGE.md", "rule 11, how much of each", () -> testAmounts(code));
        end();
    }

    private static List<Class<?>> classes() {
        List<Class<?>> all = new ArrayList<>(List.of(TwoWayTexts.class.getDeclaredClasses()));
        all.add(TwoWayTexts.class);
        return all;
    }

    /** Lines stay where they are. */
    private static String withoutCommentsAndTexts(String code) {
        Matcher found = Pattern.compile("/\\*.*?\\*/|//[^\n]*|\"[^\"\n]*\"|'[^'\n]'", Pattern.DOTALL).matcher(code);
        return found.replaceAll(one -> {
            boolean text = one.group().startsWith("\"");
            return (text ? "TEXT" : "") + "\n".repeat((int) one.group().chars().filter(sign -> sign == '\n').count());
        });
    }

    private static void testNames() {
        Set<String> face = new TreeSet<>();
        for (Method method : TwoWayTexts.class.getDeclaredMethods()) {
            if (Modifier.isPublic(method.getModifiers())) {
                face.add(method.getName());
            }
        }
        for (Class<?> one : classes()) {
            for (Method method : one.getDeclaredMethods()) {
                due(method + " bearing such a name", face.contains(method.getName()),
                    one == TwoWayTexts.class && Modifier.isPublic(method.getModifiers()));
            }
        }
    }

    private static void testWords(String code) {
        for (String words : new String[] {"->", "::", "\\bfinally\\b", "\\bsynchronized\\b", "\\bassert\\b", "\\btry \\(",
            "\\bgetMessage\\b", "\\bequals\\b", "\\bhashCode\\b", "\\btoString\\b", "\\bnative\\b", "\\bvolatile\\b",
            "\\bprotected\\b", "\\bstatic \\{", "\\bextends \\w*Exception\\b", "\\bObject\\b", "\\bThread\\b", "\\bRandom\\b",
            "Exact\\b", "\\bNaN\\b", "\\bvar\\b"}) {
            due("writing " + words, Pattern.compile(words).matcher(code).find(), false);
        }
    }

    private static void testFields() {
        Set<String> own = new TreeSet<>();
        for (Class<?> one : classes()) {
            own.add(one.getSimpleName());
        }
        for (Class<?> one : classes()) {
            for (Field field : one.getDeclaredFields()) {
                String type = field.getType().getSimpleName();
                if (Modifier.isStatic(field.getModifiers())) {
                    due(field + " being final", Modifier.isFinal(field.getModifiers()), true);
                    due("the type of " + field + " being one of a constant", CONSTANTS.contains(type), true);
                } else {
                    Class<?> inner = field.getType().isArray() ? field.getType().getComponentType() : field.getType();
                    due("the type of " + field + " being a number, an own class or a row of such",
                        inner.isPrimitive() || own.contains(inner.getSimpleName()), true);
                }
            }
        }
    }

    private static void testLibrary(String code) {
        Matcher imported = Pattern.compile("import ([^;]+);").matcher(code);
        while (imported.find()) {
            due("importing " + imported.group(1), IMPORTS.contains(imported.group(1)), true);
        }
        Set<String> own = new TreeSet<>();
        for (Class<?> one : classes()) {
            own.add(one.getSimpleName());
        }
        String body = code.replaceAll("import [^;]+;", "");
        Matcher call = Pattern.compile("\\b([A-Z][a-z]\\w*)\\.(\\w+)").matcher(body);
        while (call.find()) {
            due("using " + call.group(), own.contains(call.group(1)) || STATIC_CALLS.contains(call.group()), true);
        }
        due("java. in the midst", body.contains("java."), false);
    }

    private static void testExceptions(String code) {
        Matcher thrown = Pattern.compile("\\bthrow\\b([^;]*);").matcher(code);
        while (thrown.find()) {
            Matcher made = Pattern.compile(" new (\\w+)\\((TEXT)?\\)").matcher(thrown.group(1));
            due("throw" + thrown.group(1) + " being of a listed class with a written text",
                made.matches() && EXCEPTIONS.contains(made.group(1)), true);
        }
    }

    private static void testAmounts(String code) {
        due("so few classes", classes().size() <= MOST_CLASSES, true);
        for (Class<?> one : classes()) {
            int fields = 0;
            for (Field field : one.getDeclaredFields()) {
                fields += Modifier.isStatic(field.getModifiers()) ? 0 : 1;
            }
            due("so few fields of " + one, fields <= MOST_FIELDS, true);
            for (Method method : one.getDeclaredMethods()) {
                due("so few parameters of " + method, method.getParameterCount() <= MOST_PARAMETERS, true);
            }
        }
        testLengths(code.split("\n", -1));
    }

    /** A method begins with a line that has parameters and opens it, and ends with a bracket that stands as far in. */
    private static void testLengths(String[] lines) {
        int methods = 0;
        for (int start = 0; start < lines.length; start++) {
            Matcher head = Pattern.compile("((?:    ){1,2})(?!return|throw|    )\\w[\\w\\[\\] ]* \\w+\\(.*\\{").matcher(lines[start]);
            if (!head.matches()) {
                continue;
            }
            int end = start;
            while (end < lines.length && !lines[end].equals(head.group(1) + "}")) {
                end++;
            }
            methods++;
            due("so few lines of " + lines[start].strip(), end - start + 1 <= MOST_LINES, true);
        }
        due("finding the methods", methods >= 50, true);
    }
}
