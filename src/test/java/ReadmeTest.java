import java.io.File;
import java.io.IOException;
import java.net.URL;
import java.net.URLClassLoader;
import java.nio.file.Files;
import java.nio.file.Path;
import java.util.ArrayList;
import java.util.Arrays;
import java.util.List;
import java.util.regex.Matcher;
import java.util.regex.Pattern;
import javax.tools.JavaCompiler;
import javax.tools.ToolProvider;

/** README.md: each call of its examples answers what is told behind it, and its table has all calls. */
public final class ReadmeTest {
    private static final Checks CHECKS = new Checks("ReadmeTest");
    private static final Path DOCUMENT = Path.of("../shared/DOC.md");
    private static final Pattern EXAMPLE = Pattern.compile("(?s)```java\n(.*?)```");
    private static final Pattern TOLD = Pattern.compile("(.*;)\\s*// -> (-?\\w+).*");
    private static final Pattern NAMED = Pattern.compile("\\w+ (\\w+) = .*;");
    private static final Pattern PROMISE = Pattern.compile("## Promise (\\d+): .*\\s+`([^`]*)`:");

    public static void main(String[] args) throws Exception {
        String readme = Files.readString(Path.of("README.md"));
        runExamples(readme);
        lookAtTable(readme);
        CHECKS.end();
    }

    // The examples.

    private static void runExamples(String readme) throws Exception {
        List<String> calls = new ArrayList<>();
        List<String> answers = new ArrayList<>();
        String body = body(readme, calls, answers);
        List<String> given = answersOf(body);
        CHECKS.due("the examples tell answers", calls.size() > 50, true);
        CHECKS.due("number of answers", given.size(), calls.size());
        for (int k = 0; k < Math.min(given.size(), calls.size()); k++) {
            CHECKS.dueText("README: " + calls.get(k), given.get(k), answers.get(k));
        }
        for (String name : names()) {
            CHECKS.due("an example calls " + name, body.contains("." + name + "("), true);
        }
    }

    /** The lines of all examples, with those that tell an answer so that it is kept. */
    private static String body(String readme, List<String> calls, List<String> answers) throws Exception {
        StringBuilder body = new StringBuilder();
        Matcher example = EXAMPLE.matcher(readme);
        while (example.find()) {
            for (String line : example.group(1).split("\n")) {
                Matcher told = TOLD.matcher(line);
                if (told.matches()) {
                    calls.add(told.group(1));
                    answers.add(number(told.group(2)));
                    body.append(keeping(told.group(1)));
                } else {
                    body.append(line);
                }
                body.append('\n');
            }
        }
        return body.toString();
    }

    private static String keeping(String statement) {
        Matcher named = NAMED.matcher(statement);
        if (named.matches()) {
            return statement + " answers.add(String.valueOf(" + named.group(1) + "));";
        }
        return "answers.add(String.valueOf(" + statement.substring(0, statement.length() - 1) + "));";
    }

    /** A constant of the face is told by its name. */
    private static String number(String word) throws Exception {
        boolean isName = Character.isUpperCase(word.charAt(0));
        return isName ? String.valueOf(GraphDeltas.class.getField(word).get(null)) : word;
    }

    private static List<String> answersOf(String body) throws Exception {
        Path directory = Files.createTempDirectory("readme");
        try {
            compile(directory, body);
            try (URLClassLoader loader = new URLClassLoader(new URL[] {directory.toUri().toURL()})) {
                List<String> answers = new ArrayList<>();
                loader.loadClass("Examples").getMethod("run", List.class).invoke(null, answers);
                return answers;
            }
        } finally {
            for (File file : directory.toFile().listFiles()) {
                Files.delete(file.toPath());
            }
            Files.delete(directory);
        }
    }

    private static void compile(Path directory, String body) throws IOException {
        Path file = directory.resolve("Examples.java");
        Files.writeString(file, "public class Examples { public static void run(java.util.List<String> answers) {\n"
            + body + "} }\n");
        JavaCompiler compiler = ToolProvider.getSystemJavaCompiler();
        int failed = compiler.run(null, null, null, "-cp", System.getProperty("java.class.path"),
            "-d", directory.toString(), file.toString());
        CHECKS.due("the examples are not compiled", failed, 0);
    }

    private static List<String> names() {
        return Arrays.asList("node", "put", "link", "insert", "remove", "kind", "value", "snapshot", "restore", "same",
            "diff", "merge", "conflict", "operation", "apply", "encode", "feed", "cut", "decode", "byteAt");
    }

    // The table.

    private static void lookAtTable(String readme) throws IOException {
        if (!Files.exists(DOCUMENT)) {
            System.out.println("no " + DOCUMENT + ": the table is not compared with it");
            return;
        }
        int promises = 0;
        Matcher promise = PROMISE.matcher(Files.readString(DOCUMENT));
        while (promise.find()) {
            promises++;
            String row = "| " + promise.group(1) + " | `" + promise.group(2) + "` |";
            CHECKS.due("README has the row " + row, readme.contains(row), true);
        }
        CHECKS.due("promises of the document", promises, 21);
    }
}
