import java.io.File;
import java.io.IOException;
import java.net.URL;
import java.net.URLClassLoader;
import java.nio.file.Files;
import java.nio.file.Path;
import java.util.ArrayList;
import java.util.Comparator;
import java.util.List;
import java.util.Set;
import java.util.TreeSet;
import java.util.regex.Matcher;
import java.util.regex.Pattern;
import java.util.stream.Collectors;
import java.util.stream.Stream;
import javax.tools.ToolProvider;

/** What README.md says of the class and of its tests has to be true of them. */
final class ReadmeTest {
    private static final Pattern EXAMPLE = Pattern.compile("(?s)```java\n(.*?)```");
    // A call, perhaps kept in a variable, and what it answers: up to a colon, behind which words may stand.
    private static final Pattern ANSWERED = Pattern.compile("(?:int (\\w+) = )?([^/{}]*); *// ([^:]*)(?::.*)?");
    private static final Pattern SIGNATURE = Pattern.compile("public \\w+ (\\w+)\\(([^)]*)\\)");
    private static final Pattern TEST = Pattern.compile("`(\\w+Tests?)`");

    private ReadmeTest() {
    }

    static void run(String readme, String document) throws Exception {
        String text = Files.readString(Path.of(readme));
        examples(text);
        callsAreNamed(text, Files.readString(Path.of(document)));
        testsAreNamed(text, Path.of(readme).toAbsolutePath().getParent().resolve("src/test/java"));
        require(text.contains("    .ci/run\n"), "does not say how to run the tests");
    }

    private static void require(boolean holds, String what) {
        if (!holds) {
            Check.wrong("README.md: " + what);
        }
    }

    private static void examples(String text) throws Exception {
        Matcher examples = EXAMPLE.matcher(text);
        int count = 0;
        int answers = 0;
        while (examples.find()) {
            count++;
            answers += compareExample("ReadmeExample" + count, examples.group(1).split("\n"));
        }
        require(count > 0, "there is no example");
        System.out.println(answers + " answers of the examples in README.md are looked at");
    }

    private static int compareExample(String name, String[] lines) throws Exception {
        List<String> due = new ArrayList<>();
        List<String> calls = new ArrayList<>();
        StringBuilder body = new StringBuilder();
        for (String line : lines) {
            Matcher answered = ANSWERED.matcher(line);
            if (!answered.matches()) {
                require(!line.contains("//"), "the answer cannot be read in: " + line);
                body.append(line).append('\n');
                continue;
            }
            String variable = answered.group(1);
            if (variable != null) {
                body.append("int ").append(variable).append(" = ").append(answered.group(2)).append(";\n");
            }
            body.append("note(() -> ").append(variable != null ? variable : answered.group(2)).append(");\n");
            due.add(answered.group(3).trim());
            calls.add(answered.group(2));
        }
        List<?> got = answersOf(name, body.toString());
        require(got.size() == due.size(), name + " gave the answers " + got);
        for (int i = 0; i < Math.min(got.size(), due.size()); i++) {
            require(due.get(i).equals(got.get(i)),
                    calls.get(i) + " answers " + got.get(i) + " and not " + due.get(i));
        }
        return due.size();
    }

    private static String sourceOf(String name, String body) {
        return "import java.util.ArrayList;\nimport java.util.List;\npublic final class " + name + " {\n"
                + "private interface Call { Object run(); }\n"
                + "private static final List<String> ANSWERS = new ArrayList<>();\n"
                + "private static void note(Call call) {\n"
                + "try { ANSWERS.add(String.valueOf(call.run())); }\n"
                + "catch (RuntimeException e) { ANSWERS.add(\"throws \" + e.getClass().getSimpleName()); }\n}\n"
                + "public static List<String> run() {\n" + body + "return ANSWERS;\n}\n}\n";
    }

    private static List<?> answersOf(String name, String body) throws Exception {
        Path place = Files.createTempDirectory("readme");
        try {
            Path source = place.resolve(name + ".java");
            Files.writeString(source, sourceOf(name, body));
            int failed = ToolProvider.getSystemJavaCompiler().run(null, System.out, System.out, "-encoding", "UTF-8",
                    "-cp", System.getProperty("java.class.path"), "-d", place.toString(), source.toString());
            require(failed == 0, "an example cannot be compiled");
            if (failed != 0) {
                return List.of();
            }
            try (URLClassLoader loader = new URLClassLoader(new URL[] {place.toUri().toURL()},
                    ReadmeTest.class.getClassLoader())) {
                return (List<?>) loader.loadClass(name).getMethod("run").invoke(null);
            }
        } finally {
            remove(place);
        }
    }

    private static void remove(Path place) throws IOException {
        try (Stream<Path> files = Files.walk(place)) {
            files.sorted(Comparator.reverseOrder()).map(Path::toFile).forEach(File::delete);
        }
    }

    /** Each call of the document's face stands in the tables, by its name and those of its parameters. */
    private static void callsAreNamed(String text, String document) {
        String face = document.substring(document.indexOf("public final class"), document.indexOf("## Terms"));
        Matcher signature = SIGNATURE.matcher(face);
        Set<String> due = new TreeSet<>();
        while (signature.find()) {
            due.add(signature.group(1) + "(" + signature.group(2).replaceAll("\\w+ (\\w+)", "$1") + ")");
        }
        Set<String> found = new TreeSet<>();
        Matcher row = Pattern.compile("(?m)^\\| `([^`]*)` \\| \\S").matcher(text);
        while (row.find()) {
            require(found.add(row.group(1)), row.group(1) + " is told twice");
        }
        require(due.size() == Check.PROMISES - 1, "the document has " + due.size() + " calls");
        same(found, due, "call");
    }

    private static void testsAreNamed(String text, Path tests) throws IOException {
        Set<String> named = new TreeSet<>();
        Matcher test = TEST.matcher(text);
        while (test.find()) {
            named.add(test.group(1));
        }
        try (Stream<Path> files = Files.list(tests)) {
            Set<String> due = files.map(file -> file.getFileName().toString().replace(".java", ""))
                    .filter(name -> name.matches("\\w+Tests?")).collect(Collectors.toCollection(TreeSet::new));
            same(named, due, "test");
        }
    }

    private static void same(Set<String> found, Set<String> due, String kind) {
        for (String name : found) {
            require(due.contains(name), "there is no " + kind + " " + name);
        }
        for (String name : due) {
            require(found.contains(name), "does not name the " + kind + " " + name);
        }
    }
}
