import java.io.File;
import java.io.IOException;
import java.lang.reflect.Method;
import java.lang.reflect.Modifier;
import java.net.URI;
import java.net.URL;
import java.net.URLClassLoader;
import java.nio.file.Files;
import java.nio.file.Path;
import java.util.ArrayList;
import java.util.List;
import java.util.Set;
import java.util.TreeSet;
import java.util.regex.Matcher;
import java.util.regex.Pattern;
import javax.tools.JavaCompiler;
import javax.tools.JavaFileObject;
import javax.tools.SimpleJavaFileObject;
import javax.tools.ToolProvider;

/**
 * What README.md shows of the class's use compiles as it stands there and answers as it says, shows every
 * method of the face, and README.md names every test. It is run in the project's folder.
 */
public final class ReadmeTest {
    private static final Path README = Path.of("README.md");
    private static final Path TESTS = Path.of("src", "test", "java");
    private static final String CLASS_NAME = "ReadmeUse";

    private static final Pattern STATEMENT = Pattern.compile("(?:\\w+ (\\w+) = )?(.*?);(?:\\s*// (.*))?");
    private static final Pattern TEST_IN_TABLE = Pattern.compile("\\| `(\\w+Test)` \\|.*");

    // These alone have no answer that could stand behind them.
    private static final Pattern ANSWERLESS =
        Pattern.compile("AuditDraws audits = new AuditDraws\\(\\);|audits\\.seed\\(.*\\);");

    public static void main(String[] args) throws Exception {
        List<String> readme = Files.readAllLines(README);
        List<String> use = linesOfUse(readme);
        answersAreAsShown(use);
        everyMethodIsShown(use);
        everyTestIsNamed(readme);
        Due.end();
    }

    /** The lines of all blocks of Java, which go on from one to the next. */
    private static List<String> linesOfUse(List<String> readme) {
        List<String> lines = new ArrayList<>();
        boolean inside = false;
        for (String line : readme) {
            if (line.startsWith("```")) {
                inside = line.equals("```java");
            } else if (inside && !line.isBlank()) {
                lines.add(line.strip());
            }
        }
        return lines;
    }

    private static void answersAreAsShown(List<String> use) throws Exception {
        List<String> shown = new ArrayList<>();
        List<String> due = new ArrayList<>();
        StringBuilder body = new StringBuilder();
        for (String line : use) {
            Matcher parts = STATEMENT.matcher(line);
            Due.same("one statement: " + line, true, parts::matches);
            if (parts.group(3) == null) {
                Due.same("without an answer: " + line, true, () -> ANSWERLESS.matcher(line).matches());
                body.append(line).append("\n");
            } else {
                shown.add(line);
                due.add(parts.group(3).split(":")[0].strip());
                body.append(noting(parts.group(1), parts.group(2), line));
            }
        }
        List<String> answers = run(String.join("\n", use), body.toString());
        Due.same("answers of README.md", shown.size(), answers::size);
        for (int i = 0; i < shown.size() && i < answers.size(); i++) {
            Due.compare("README.md: " + shown.get(i), due.get(i), answers.get(i));
        }
    }

    /** The statement so that its answer, or the exception's name, goes behind the answers. */
    private static String noting(String variable, String call, String line) {
        if (variable != null) {
            return line + "\nanswers.add(String.valueOf(" + variable + "));\n";
        }
        return "try { answers.add(String.valueOf(" + call + ")); }\n"
            + "catch (RuntimeException e) { answers.add(\"throws \" + e.getClass().getSimpleName()); }\n";
    }

    private static List<String> run(String use, String body) throws Exception {
        // The first method is there to be compiled alone: the lines without what notes their answers.
        String source = "public final class " + CLASS_NAME + " {\n"
            + "static void asShown() {\n" + use + "\n}\n"
            + "public static void run(java.util.List<String> answers) {\n" + body + "}\n}\n";
        List<String> answers = new ArrayList<>();
        Path folder = Files.createTempDirectory("readme");
        try {
            boolean compiled = compile(source, folder);
            Due.same("README.md compiles", true, () -> compiled);
            if (compiled) {
                try (URLClassLoader loader = new URLClassLoader(new URL[] {folder.toUri().toURL()})) {
                    loader.loadClass(CLASS_NAME).getMethod("run", List.class).invoke(null, answers);
                }
            }
        } finally {
            delete(folder);
        }
        return answers;
    }

    private static boolean compile(String source, Path folder) {
        JavaCompiler compiler = ToolProvider.getSystemJavaCompiler();
        JavaFileObject file = new SimpleJavaFileObject(URI.create("string:///" + CLASS_NAME + ".java"),
                JavaFileObject.Kind.SOURCE) {
            @Override
            public CharSequence getCharContent(boolean ignoreEncodingErrors) {
                return source;
            }
        };
        List<String> options = List.of("--release", "17", "-d", folder.toString(),
            "-cp", System.getProperty("java.class.path"));
        return compiler.getTask(null, null, null, options, null, List.of(file)).call();
    }

    private static void delete(Path folder) throws IOException {
        for (File file : folder.toFile().listFiles()) {
            Files.delete(file.toPath());
        }
        Files.delete(folder);
    }

    private static void everyMethodIsShown(List<String> use) {
        String all = String.join("\n", use);
        for (Method each : AuditDraws.class.getDeclaredMethods()) {
            if (Modifier.isPublic(each.getModifiers())) {
                Due.same("README.md shows " + each.getName(), true,
                    () -> all.contains("audits." + each.getName() + "("));
            }
        }
    }

    private static void everyTestIsNamed(List<String> readme) {
        Set<String> named = new TreeSet<>();
        for (String line : readme) {
            Matcher row = TEST_IN_TABLE.matcher(line);
            if (row.matches()) {
                named.add(row.group(1));
            }
        }
        Set<String> there = new TreeSet<>();
        for (String name : TESTS.toFile().list()) {
            if (name.endsWith("Test.java")) {
                there.add(name.substring(0, name.length() - ".java".length()));
            }
        }
        Due.same("tests in README.md's table", there, () -> named);
    }
}
