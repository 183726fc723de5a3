import java.io.IOException;
import java.nio.charset.StandardCharsets;
import java.nio.file.Files;
import java.nio.file.Path;
import java.util.List;
import java.util.regex.Matcher;
import java.util.regex.Pattern;

/** The program's text keeps to those rules of LANGUAGE.md that its words show. Its argument is the file. */
public final class LanguageTest {
    /** What the program has no need for and the rules forbid or bind. */
    private static final List<String> FORBIDDEN = List.of("->", "::", "\\btry\\b", "\\bcatch\\b", "\\bfinally\\b",
        "\\bsynchronized\\b", "\\bassert\\b", "\\bpackage\\b", "\\bprotected\\b", "\\bstatic\\s*\\{",
        "\\bdouble\\b", "\\bfloat\\b", "\\w+Exact\\b", "\\bhashCode\\b", "\\btoString\\b", "\\bequals\\b");
    private static final List<String> IMPORTS = List.of("java.util.NoSuchElementException");
    private static final List<String> LIBRARY = List.of("Math.min", "Math.max", "System.arraycopy");

    private LanguageTest() {
    }

    public static void main(String[] args) throws IOException {
        Check check = new Check();
        Path file = Path.of(args.length > 0 ? args[0] : "src/main/java/SaveRestore.java");
        String text = Files.readString(file, StandardCharsets.ISO_8859_1);
        check.due("signs beyond 127", text.chars().filter(sign -> sign > 127).count(), 0L);
        String code = withoutComments(text);
        for (String forbidden : FORBIDDEN) {
            check.due("has " + forbidden, Pattern.compile(forbidden).matcher(code).find(), false);
        }
        eachIn(check, code, "\\bimport\\s+([\\w.*]+)", IMPORTS);
        eachIn(check, code, "\\b((?:Math|System|Integer|Long|Arrays)\\.\\w+)", LIBRARY);
        check.end();
    }

    private static String withoutComments(String text) {
        return text.replaceAll("\"[^\"\n]*\"", "\"\"").replaceAll("(?s)/\\*.*?\\*/", " ").replaceAll("//[^\n]*", " ");
    }

    private static void eachIn(Check check, String code, String pattern, List<String> allowed) {
        Matcher matcher = Pattern.compile(pattern).matcher(code);
        while (matcher.find()) {
            check.due(matcher.group(1) + " is allowed", allowed.contains(matcher.group(1)), true);
        }
    }
}
