import java.io.IOException;
import java.net.URL;
import java.net.URLClassLoader;
import java.nio.file.Files;
import java.nio.file.Path;
import java.util.ArrayList;
import java.util.List;
import java.util.Set;
import java.util.TreeSet;
import java.util.regex.Matcher;
import java.util.regex.Pattern;
import javax.tools.ToolProvider;

/**
 * The Java lines of README.md compile together, and each call answers as is said behind it. Run from the project's
 * folder; another text to be looked at may be given.
 */
public final class ReadmeTest {
    private static final Pattern OBJECT = Pattern.compile("LeafTrees (\\w+) = new LeafTrees\\(\\);");
    private static final Pattern CALL = Pattern.compile("(?:int (\\w+) = )?(\\w+)\\.(\\w+)\\([^;]*\\);");
    // The answer is a number, or the name of one.
    private static final Pattern ANSWER = Pattern.compile(" *// (-?\\d+|[A-Z]+)(:.*)?");
    private static final Set<String> METHODS = Set.of("act", "put", "empty", "at", "about", "graft", "same", "rule",
        "nought", "unrule", "side", "matches", "step", "normal", "howMany", "overlaps", "overlap", "closes", "turned",
        "dual", "count", "digest");

    private final List<String> wrong = new ArrayList<>();
    private final Set<String> objects = new TreeSet<>();
    private final Set<String> notShown = new TreeSet<>(METHODS);
    private int answers = 0;

    public static void main(String[] args) throws IOException, ReflectiveOperationException {
        ReadmeTest test = new ReadmeTest();
        test.go(Files.readAllLines(Path.of(args.length > 0 ? args[0] : "README.md")));
        test.wrong.forEach(System.out::println);
        System.out.println(test.wrong.isEmpty() ? test.answers + " answers are as README.md says"
            : test.wrong.size() + " things are not as README.md says");
        if (!test.wrong.isEmpty()) System.exit(1);
    }

    private void go(List<String> readme) throws IOException, ReflectiveOperationException {
        String program = program(readme);
        if (!notShown.isEmpty()) wrong.add("no example shows " + notShown);
        Path folder = Files.createTempDirectory("readme");
        Path source = folder.resolve("ReadmeExample.java");
        try {
            Files.writeString(source, program);
            compileAndRun(folder, source);
        } finally {
            Files.deleteIfExists(source);
            Files.deleteIfExists(folder.resolve("ReadmeExample.class"));
            Files.deleteIfExists(folder);
        }
    }

    private void compileAndRun(Path folder, Path source) throws IOException, ReflectiveOperationException {
        int refused = ToolProvider.getSystemJavaCompiler().run(null, System.out, System.out, "--release", "17",
            "-cp", System.getProperty("java.class.path"), "-d", folder.toString(), source.toString());
        if (refused != 0) {
            wrong.add("the examples do not compile");
            return;
        }
        try (URLClassLoader loader = new URLClassLoader(new URL[] {folder.toUri().toURL()})) {
            loader.loadClass("ReadmeExample").getMethod("run", List.class).invoke(null, wrong);
        }
    }

    /** A class that does what the lines say, and tells each answer that is another one. */
    private String program(List<String> readme) {
        StringBuilder text = new StringBuilder("public final class ReadmeExample {\n"
            + "static void due(java.util.List<String> wrong, String what, long got, long want) {\n"
            + "if (got != want) wrong.add(what + \" answered \" + got + \", said is \" + want);\n}\n"
            + "public static void run(java.util.List<String> wrong) {\n");
        boolean inside = false;
        for (int i = 0; i < readme.size(); i++) {
            String line = readme.get(i);
            if (line.startsWith("```")) {
                inside = line.equals("```java");
            } else if (inside) {
                text.append(statement(line, i + 1)).append('\n');
            }
        }
        return text.append("}\n}\n").toString();
    }

    /** A line as it is, but for a call: its answer is compared. */
    private String statement(String line, int number) {
        Matcher made = OBJECT.matcher(line);
        if (made.lookingAt()) objects.add(made.group(1));
        Matcher call = CALL.matcher(line);
        if (!call.lookingAt() || !objects.contains(call.group(2))) return line;
        Matcher answer = ANSWER.matcher(line.substring(call.end()));
        if (!answer.matches()) {
            wrong.add("line " + number + " says no answer: " + line);
            return line;
        }
        answers++;
        notShown.remove(call.group(3));
        String want = answer.group(1).matches("[A-Z]+") ? "LeafTrees." + answer.group(1) : answer.group(1) + "L";
        String kept = call.group(1);
        String code = call.group().substring(0, call.end() - 1);
        String got = kept == null ? code : kept;
        return (kept == null ? "" : line + "\n")
            + "due(wrong, \"line " + number + ", " + code + "\", " + got + ", " + want + ");";
    }
}
