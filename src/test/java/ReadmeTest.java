import java.io.File;
import java.net.URL;
import java.net.URLClassLoader;
import java.nio.file.Files;
import java.nio.file.Path;
import java.util.ArrayList;
import java.util.Arrays;
import java.util.Comparator;
import java.util.List;
import java.util.TreeSet;
import java.util.concurrent.Callable;
import java.util.function.BiConsumer;
import java.util.regex.Matcher;
import java.util.regex.Pattern;
import java.util.stream.Collectors;
import java.util.stream.Stream;
import javax.tools.ToolProvider;

/** README.md: its example is compiled and asked for the answers behind it, its command and names are looked up. */
public final class ReadmeTest {
    private static final Path README = Path.of("README.md");
    /** A call in the example, with its answer up to a comma or a semicolon. */
    private static final Pattern CALL = Pattern.compile("(x\\.\\w+\\(.*\\)); +// (?:throws )?('.'|[^,;]+)(?:[,;] .+)?");
    private static final int FEWEST_CALLS = 25;
    private static final int MOST_CALLS = 512;

    private ReadmeTest() {
    }

    public static void main(String[] args) throws Exception {
        String readme = Files.readString(README);
        example(codeUnder(readme, "## Use"));
        command(codeUnder(readme, "## Tests"));
        same("classes", namesIn(sectionUnder(readme, "## How it is built"), "`([A-Z][a-z]\\w*)`"),
            Arrays.stream(CalendarConverter.class.getDeclaredClasses()).map(Class::getSimpleName));
        try (Stream<Path> tests = Files.list(Path.of("src/test/java"))) {
            same("tests", namesIn(sectionUnder(readme, "## Tests"), "- `(\\w+)`:"),
                tests.map(p -> p.getFileName().toString().replace(".java", "")).filter(n -> n.endsWith("Test")));
        }
        filesExist(readme);
        Due.end("ReadmeTest");
    }

    private static String sectionUnder(String readme, String heading) {
        int from = readme.indexOf(heading + "\n");
        Due.same(heading + " is there", "true", String.valueOf(from >= 0));
        int to = readme.indexOf("\n## ", from + 1);
        return readme.substring(Math.max(0, from), to < 0 ? readme.length() : to + 1);
    }

    private static List<String> codeUnder(String readme, String heading) {
        return sectionUnder(readme, heading).lines().filter(line -> line.startsWith("    ")).map(line -> line.substring(4))
            .collect(Collectors.toList());
    }

    /** Each call on a line of its own becomes a question; every other line stays as it is. */
    private static void example(List<String> lines) throws Exception {
        List<String> questions = new ArrayList<>();
        List<String> due = new ArrayList<>();
        for (String line : lines) {
            Matcher call = CALL.matcher(line);
            if (call.matches()) {
                due.add(call.group(2).replaceAll("^'(.)'$", "$1"));
                questions.add("ask.accept(" + (due.size() - 1) + ", () -> " + call.group(1) + ");");
            } else {
                Due.same("\"" + line + "\" is a call without an answer", "false", String.valueOf(line.startsWith("x.")));
                questions.add(line);
            }
        }
        Due.same("the example has enough calls", "true", String.valueOf(due.size() >= FEWEST_CALLS));
        Due.same("and not too many", "true", String.valueOf(due.size() < MOST_CALLS));
        BiConsumer<Integer, Callable<?>> ask =
            (index, call) -> Due.is("README.md, call " + index + " of the example", due.get(index), call);
        runExample("import java.util.concurrent.Callable;\nimport java.util.function.BiConsumer;\n"
            + "public final class Example {\n    public static void run(BiConsumer<Integer, Callable<?>> ask) {\n"
            + String.join("\n", questions) + "\n    }\n}\n", ask);
    }

    private static void runExample(String source, BiConsumer<Integer, Callable<?>> ask) throws Exception {
        Path place = Files.createTempDirectory("readme");
        try {
            Path file = Files.writeString(place.resolve("Example.java"), source);
            int code = ToolProvider.getSystemJavaCompiler().run(null, null, null, "-d", place.toString(), "-cp",
                System.getProperty("java.class.path"), file.toString());
            Due.same("compiling the example of README.md", "0", String.valueOf(code));
            if (code == 0) {
                try (URLClassLoader loader = new URLClassLoader(new URL[] {place.toUri().toURL()})) {
                    loader.loadClass("Example").getMethod("run", BiConsumer.class).invoke(null, ask);
                }
            }
        } finally {
            try (Stream<Path> made = Files.walk(place)) {
                made.sorted(Comparator.reverseOrder()).map(Path::toFile).forEach(File::delete);
            }
        }
    }

    /** The command is the script that CI runs, and the script runs what README.md says. */
    private static void command(List<String> lines) throws Exception {
        Due.same("the command", "[sh .ci/run]", lines.toString());
        Path script = Path.of(".ci/run");
        Due.same(".ci/run can be run", "true", String.valueOf(Files.isExecutable(script)));
        String text = Files.readString(script);
        for (String part : new String[] {"javac -Xlint:all -Werror", "for file in src/test/java/*Test.java",
            "shared=../shared/tests", "for file in \"$shared\"/*.java", "$passed passed, $failed failed"}) {
            Due.same(".ci/run has " + part, "true", String.valueOf(text.contains(part)));
        }
    }

    private static TreeSet<String> namesIn(String section, String pattern) {
        TreeSet<String> names = new TreeSet<>();
        Matcher name = Pattern.compile(pattern).matcher(section);
        while (name.find()) {
            names.add(name.group(1));
        }
        return names;
    }

    private static void same(String what, TreeSet<String> named, Stream<String> there) {
        Due.same("the " + what + " that README.md names", new TreeSet<>(there.collect(Collectors.toList())).toString(),
            named.toString());
    }

    private static void filesExist(String readme) {
        Matcher file = Pattern.compile("`((?:\\.\\./shared|src)/[\\w./]+)`").matcher(readme);
        int seen = 0;
        while (file.find()) {
            Due.same(file.group(1) + " is there", "true", String.valueOf(Files.exists(Path.of(file.group(1)))));
            seen++;
        }
        Due.same("files were named", "true", String.valueOf(seen > 0));
    }
}
