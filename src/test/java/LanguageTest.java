import java.io.IOException;
import java.lang.reflect.Field;
import java.lang.reflect.Method;
import java.lang.reflect.Modifier;
import java.nio.charset.StandardCharsets;
import java.nio.file.Files;
import java.nio.file.Path;
import java.util.ArrayList;
import java.util.LinkedHashMap;
import java.util.List;
import java.util.Map;
import java.util.regex.Matcher;
import java.util.regex.Pattern;

/** The program's text keeps to those rules of LANGUAGE.md that it shows. Its argument is the file. */
public final class LanguageTest {
    /** What the program has no need for and the rules forbid or bind. */
    private static final List<String> FORBIDDEN = List.of("->", "::", "\\btry\\b", "\\bcatch\\b", "\\bfinally\\b",
        "\\bsynchronized\\b", "\\bassert\\b", "\\bpackage\\b", "\\bprotected\\b", "\\bstatic\\s*\\{",
        "\\bdouble\\b", "\\bfloat\\b", "\\w+Exact\\b", "\\bhashCode\\b", "\\btoString\\b", "\\bequals\\b",
        "\\bwhile\\b", "\\bdo\\b", "\"\\s*\\+", "\\+\\s*\"", "\\bString\\b", "\\bObject\\b", "\\binstanceof\\b",
        "\\bvar\\b", "\\bnew\\s+\\w+\\([^()]*\\)\\s*\\{", "[/%]");
    private static final List<String> IMPORTS = List.of("java.util.NoSuchElementException");
    private static final List<String> LIBRARY = List.of("Math.min", "Math.max", "System.arraycopy");
    private static final List<String> THROWN = List.of("IllegalStateException", "IndexOutOfBoundsException",
        "UnsupportedOperationException", "NoSuchElementException");

    private static final int MOST_CLASSES = 12;
    private static final int MOST_FIELDS = 20;
    private static final int MOST_PARAMETERS = 7;
    private static final int MOST_LINES = 60;
    private static final int DEEPEST_CALLS = 8;

    /** What stands at the front of a method or of a constructor, up to its parameters. */
    private static final Pattern METHOD = Pattern.compile("^( +)(?:(?:public|private|static|final) )*"
        + "(?:(?:int|boolean|void|[A-Z]\\w*) )?(\\w+)\\(([^()]*)\\)[^;{}=]*\\{$", Pattern.MULTILINE);

    private final Check check = new Check();
    private final String code;
    /** What each method and constructor does, by its name. */
    private final Map<String, String> bodies = new LinkedHashMap<>();

    private LanguageTest(String text) {
        check.due("signs beyond 127", text.chars().filter(sign -> sign > 127).count(), 0L);
        code = withoutComments(text);
    }

    public static void main(String[] args) throws IOException {
        Path file = Path.of(args.length > 0 ? args[0] : "src/main/java/SaveRestore.java");
        LanguageTest test = new LanguageTest(Files.readString(file, StandardCharsets.ISO_8859_1));
        test.words();
        test.exceptions();
        test.classesAndFields();
        test.methods();
        test.depthOfCalls();
        test.check.end();
    }

    private static String withoutComments(String text) {
        return text.replaceAll("\"[^\"\n]*\"", "\"\"").replaceAll("(?s)/\\*.*?\\*/", " ").replaceAll("//[^\n]*", " ");
    }

    private void words() {
        for (String forbidden : FORBIDDEN) {
            check.due("has " + forbidden, Pattern.compile(forbidden).matcher(code).find(), false);
        }
        eachIn("\\bimport\\s+([\\w.*]+)", IMPORTS);
        eachIn("\\b((?:Math|System|Integer|Long|Arrays)\\.\\w+)", LIBRARY);
    }

    private void eachIn(String pattern, List<String> allowed) {
        Matcher matcher = Pattern.compile(pattern).matcher(code);
        while (matcher.find()) {
            check.due(matcher.group(1) + " is allowed", allowed.contains(matcher.group(1)), true);
        }
    }

    private void exceptions() {
        eachIn("\\bthrow new (\\w+)\\(\"\"\\);", THROWN);
        check.due("throws of something else than a new exception with a written text",
            Pattern.compile("\\bthrow (?!new \\w+\\(\"\"\\);)").matcher(code).find(), false);
    }

    private void classesAndFields() {
        List<Class<?>> classes = new ArrayList<>(List.of(SaveRestore.class.getDeclaredClasses()));
        classes.add(SaveRestore.class);
        check.due("at most twelve classes, these " + classes, classes.size() <= MOST_CLASSES, true);
        for (Class<?> one : classes) {
            int fields = 0;
            for (Field field : one.getDeclaredFields()) {
                if (Modifier.isStatic(field.getModifiers())) {
                    check.due(field + " is a constant number",
                        Modifier.isFinal(field.getModifiers()) && field.getType() == int.class, true);
                } else {
                    fields++;
                }
            }
            check.due(one + " has at most twenty fields, these " + fields, fields <= MOST_FIELDS, true);
        }
    }

    private void methods() {
        Matcher matcher = METHOD.matcher(code);
        while (matcher.find()) {
            String name = matcher.group(2);
            int end = code.indexOf("\n" + matcher.group(1) + "}\n", matcher.start());
            String body = end < 0 ? "" : code.substring(matcher.end(), end);
            bodies.put(name, body);
            check.due(name + " has an end", end >= 0, true);
            check.due(name + " is short", body.lines().count() <= MOST_LINES, true);
            check.due(name + " has few parameters", matcher.group(3).split(",").length <= MOST_PARAMETERS, true);
            check.due(name + " is no constructor that throws",
                code.contains("class " + name + " ") && body.contains("throw "), false);
        }
        for (Method method : SaveRestore.class.getDeclaredMethods()) {
            check.due(method + " was found in the text", bodies.containsKey(method.getName()), true);
        }
    }

    private void depthOfCalls() {
        for (String name : bodies.keySet()) {
            check.due("calls behind " + name + " stay few", depthBehind(name, 1) <= DEEPEST_CALLS, true);
        }
    }

    /** A method that calls itself, by way of others too, goes beyond every depth. */
    private int depthBehind(String name, int depth) {
        int deepest = depth;
        for (String called : bodies.keySet()) {
            if (depth <= DEEPEST_CALLS && bodies.get(name).matches("(?s).*\\b" + called + "\\(.*")) {
                deepest = Math.max(deepest, depthBehind(called, depth + 1));
            }
        }
        return deepest;
    }
}
