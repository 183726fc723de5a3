import java.io.IOException;
import java.nio.file.Files;
import java.nio.file.Path;
import java.util.ArrayList;
import java.util.HashMap;
import java.util.List;
import java.util.Map;
import java.util.regex.Matcher;
import java.util.regex.Pattern;
import java.util.stream.Stream;

/** README.md's examples answer what their comments say, and what it quotes is what the document says. */
public final class ReadmeTest {
    private static final Path README = Path.of("README.md");
    private static final Path DOCUMENT = Path.of("../shared/DOC.md");
    private static final Path TESTS = Path.of("src/test/java");

    private static final Pattern EXAMPLE = Pattern.compile("```java\n(.*?)```", Pattern.DOTALL);
    private static final String MAKING = "SaveRestore machine = new SaveRestore();";
    /** A call, behind the name that its answer gets, if any, and before a comment that begins with the answer. */
    private static final Pattern CALL = Pattern.compile(
        "(?:int (\\w+) = )?machine\\.(\\w+)\\((.*)\\);\\s+// (-?\\d+|throws \\w+)(?:[:,] .*)?");
    private static final Pattern PROMISE = Pattern.compile(
        "## Promise \\d+: .*\n\n`(?:int )?(\\w+\\(.*?\\)).*?`: (.*)");
    private static final int PROMISES = 14;
    private static final Pattern NAMED_TEST = Pattern.compile("`(\\w+Test)`");

    private final Check check = new Check();
    private final String readme;

    private ReadmeTest() throws IOException {
        readme = Files.readString(README);
    }

    public static void main(String[] args) throws IOException {
        ReadmeTest test = new ReadmeTest();
        test.examples();
        test.tests();
        if (Files.exists(DOCUMENT)) {
            String document = Files.readString(DOCUMENT);
            test.callsAreTold(document);
            test.quotesStandIn(document);
        } else {
            System.out.println("there is no " + DOCUMENT + " to compare with");
        }
        test.check.end();
    }

    private void examples() {
        Matcher matcher = EXAMPLE.matcher(readme);
        int found = 0;
        while (matcher.find()) {
            found++;
            example("example " + found, matcher.group(1));
        }
        check.due("README has examples", found > 0, true);
    }

    private void example(String name, String lines) {
        SaveRestore machine = new SaveRestore();
        Map<String, String> numbers = new HashMap<>();
        for (String line : lines.split("\n")) {
            Matcher call = CALL.matcher(line);
            boolean isCall = call.matches();
            check.due(name + ": can be read: " + line, isCall || line.equals(MAKING), true);
            if (!isCall) {
                continue;
            }
            String answer = Calls.answer(machine, call.group(2) + "(" + inNumbers(call.group(3), numbers) + ")");
            check.due(name + ": " + line, answer, call.group(4).replace("throws ", "throws."));
            if (call.group(1) != null) {
                numbers.put(call.group(1), answer);
            }
        }
    }

    /** Arguments as they are written, with numbers for the names. */
    private static String inNumbers(String arguments, Map<String, String> numbers) {
        List<String> words = new ArrayList<>();
        for (String argument : arguments.split(", ")) {
            boolean isReference = argument.startsWith("-1 - ");
            String word = isReference ? argument.substring(5) : argument;
            String number = numbers.getOrDefault(word, word);
            words.add(isReference ? String.valueOf(-1 - Integer.parseInt(number)) : number);
        }
        return String.join(", ", words);
    }

    private void tests() throws IOException {
        check.due("README says how to run the tests", readme.contains("\n    .ci/run\n"), true);
        try (Stream<Path> files = Files.list(TESTS)) {
            files.map(file -> file.getFileName().toString()).filter(name -> name.endsWith("Test.java"))
                .forEach(name -> check.due("README names " + name,
                    readme.contains("`" + name.replace(".java", "`")), true));
        }
        Matcher named = NAMED_TEST.matcher(readme);
        while (named.find()) {
            check.due("there is " + named.group(1), Files.exists(TESTS.resolve(named.group(1) + ".java")), true);
        }
    }

    /** Each call has a paragraph that begins with it, and behind that the document's words on it. */
    private void callsAreTold(String document) {
        List<String> paragraphs = List.of(readme.split("\n\n"));
        Matcher promise = PROMISE.matcher(document);
        int promises = 0;
        while (promise.find()) {
            promises++;
            String call = "`" + promise.group(1) + "` ";
            List<String> behind = new ArrayList<>();
            for (int k = 0; k + 1 < paragraphs.size(); k++) {
                if (paragraphs.get(k).startsWith(call)) {
                    behind.add(plain(paragraphs.get(k + 1)));
                }
            }
            check.due("README on " + call, behind, List.of("> " + promise.group(2)));
        }
        check.due("the document's promises", promises, PROMISES);
    }

    private void quotesStandIn(String document) {
        String words = plain(document);
        for (String paragraph : readme.split("\n\n")) {
            if (paragraph.startsWith("> ")) {
                String quote = plain(paragraph).substring(2);
                check.due("the document says: " + quote, words.contains(quote), true);
            }
        }
        check.due("README quotes what a call that throws does",
            plain(readme).contains("> A call that throws changes nothing; where several exceptions that a call names "
                + "fit, it is the one that it names first."), true);
        check.due("README quotes the bound",
            plain(readme).contains("> An object is used for at most 512 calls after it has been made; "
                + "what later calls answer is free."), true);
    }

    /** In one line, a quote with one sign of it at its front. */
    private static String plain(String text) {
        return text.replaceAll("(?<=\\S)\n> ", " ").replaceAll("\\s+", " ").trim();
    }
}
