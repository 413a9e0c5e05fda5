import java.io.IOException;
import java.lang.reflect.Method;
import java.lang.reflect.Modifier;
import java.nio.file.Files;
import java.nio.file.Path;
import java.util.Arrays;
import java.util.List;
import java.util.TreeSet;
import java.util.regex.Matcher;
import java.util.regex.Pattern;
import java.util.stream.Stream;

/**
 * The examples as they are written in README.md and in the document: each call in them is made, and answers
 * what is written behind it. What README.md says of the methods and of the tests is held against what is here.
 */
public final class ExampleTests {
    private static final Path README = Path.of("README.md");
    private static final Path DOCUMENT = Path.of("../shared/DOC.md");
    private static final Path TESTS = Path.of("src/test/java");
    private static final Path COMMAND = Path.of(".ci/run");
    private static final int README_EXAMPLES = 2;
    private static final int DOCUMENT_EXAMPLES = 5;

    private static final String CALL = "(?<name>\\w+)\\((?<arguments>[^()]*)\\)";
    private static final Pattern README_CALL = Pattern.compile("x\\." + CALL + "; *// (?<answer>-?\\w+)(:.*)?");
    private static final Pattern DOCUMENT_CALL = Pattern.compile(CALL + "\\s+=\\s+(?<answer>-?\\d+)");
    private static final String NEW_OBJECT = "ProgressTracker x = new ProgressTracker();";

    private static final Due DUE = new Due("ExampleTests");

    public static void main(String[] args) throws Exception {
        String readme = Files.readString(README);
        readmeExamples(readme);
        readmeNamesEachMethod(readme);
        readmeNamesEachTest(readme);
        readmeCommand(readme);
        if (Files.exists(DOCUMENT)) {
            documentExamples(Files.readString(DOCUMENT));
        }
        DUE.end();
    }

    private static void readmeExamples(String readme) throws ReflectiveOperationException {
        Matcher example = Pattern.compile("(?s)```java\n(.*?)```").matcher(readme);
        int examples = 0;
        while (example.find()) {
            examples++;
            DUE.about("README.md, example " + examples);
            readmeExample(example.group(1).split("\n"));
        }
        DUE.about("README.md");
        DUE.same("the number of examples", examples, README_EXAMPLES);
    }

    private static void readmeExample(String[] lines) throws ReflectiveOperationException {
        DUE.holds("it begins with " + lines[0], lines[0].equals(NEW_OBJECT));
        ProgressTracker x = new ProgressTracker();
        for (String line : Arrays.copyOfRange(lines, 1, lines.length)) {
            Matcher call = README_CALL.matcher(line);
            boolean told = call.matches();
            DUE.holds("no call with its answer: " + line, told);
            if (told) {
                answersAsWritten(x, call);
            }
        }
    }

    private static void documentExamples(String document) throws ReflectiveOperationException {
        Matcher all = Pattern.compile("(?s)\nExamples:(.*?)\nThe constants:").matcher(document);
        DUE.about("DOC.md");
        DUE.holds("it has no examples", all.find());
        String[] examples = all.group(1).split("\n\\d\\. ");
        DUE.same("the number of examples", examples.length - 1, DOCUMENT_EXAMPLES);
        for (int i = 1; i < examples.length; i++) {
            DUE.about("DOC.md, example " + i);
            ProgressTracker x = new ProgressTracker();
            Matcher call = DOCUMENT_CALL.matcher(examples[i]);
            int calls = 0;
            while (call.find()) {
                calls++;
                answersAsWritten(x, call);
            }
            DUE.same("the number of calls", calls, examples[i].chars().filter(c -> c == '=').count());
        }
    }

    private static void answersAsWritten(ProgressTracker x, Matcher call) throws ReflectiveOperationException {
        String arguments = call.group("arguments").trim();
        Object[] values = arguments.isEmpty() ? new Object[0]
                : Arrays.stream(arguments.split(",\\s*")).map(ExampleTests::valueOf).toArray();
        Class<?>[] types = new Class<?>[values.length];
        Arrays.fill(types, int.class);
        Method method = ProgressTracker.class.getMethod(call.group("name"), types);
        long got = ((Number) method.invoke(x, values)).longValue();
        DUE.same(call.group("name") + "(" + arguments + ")", got, valueOf(call.group("answer")));
    }

    private static int valueOf(String word) {
        return switch (word.replaceFirst("^ProgressTracker\\.", "")) {
            case "NONE" -> ProgressTracker.NONE;
            case "OUT_OF_RANGE" -> ProgressTracker.OUT_OF_RANGE;
            case "NOT_POSSIBLE" -> ProgressTracker.NOT_POSSIBLE;
            case "FULL" -> ProgressTracker.FULL;
            case "NOTHING_SAVED" -> ProgressTracker.NOTHING_SAVED;
            default -> Integer.parseInt(word);
        };
    }

    private static void readmeNamesEachMethod(String readme) {
        for (Method method : ProgressTracker.class.getDeclaredMethods()) {
            if (Modifier.isPublic(method.getModifiers())) {
                Pattern row = Pattern.compile("\\| `" + method.getName() + "\\((\\w+(, \\w+)*)?\\)` \\|");
                Matcher named = row.matcher(readme);
                boolean found = named.find();
                DUE.holds("no row tells of " + method.getName(), found);
                if (found) {
                    int parameters = named.group(1) == null ? 0 : named.group(1).split(",").length;
                    DUE.same("parameters told of " + method.getName(), parameters, method.getParameterCount());
                }
            }
        }
    }

    private static void readmeNamesEachTest(String readme) throws IOException {
        TreeSet<String> named = new TreeSet<>();
        Matcher name = Pattern.compile("`(\\w+Tests)`").matcher(readme);
        while (name.find()) {
            named.add(name.group(1));
        }
        try (Stream<Path> files = Files.list(TESTS)) {
            List<String> here = files.map(file -> file.getFileName().toString())
                    .filter(file -> file.endsWith("Tests.java"))
                    .map(file -> file.substring(0, file.length() - ".java".length())).toList();
            DUE.holds("the tests are " + here + ", it names " + named, named.equals(new TreeSet<>(here)));
        }
    }

    private static void readmeCommand(String readme) {
        DUE.holds("the command of the tests is told", readme.contains("\n    " + COMMAND + "\n"));
        DUE.holds(COMMAND + " can be run", Files.isExecutable(COMMAND));
    }
}
