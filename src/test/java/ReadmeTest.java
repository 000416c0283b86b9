import java.nio.file.Files;
import java.nio.file.Path;
import java.util.ArrayList;
import java.util.List;
import java.util.regex.Matcher;
import java.util.regex.Pattern;
import javax.tools.JavaCompiler;
import javax.tools.ToolProvider;

/** What README.md says of using the class and of running the tests is so: it is tried. */
public final class ReadmeTest {
    /** A call that stands alone on its line, and behind it what it answers. */
    private static final Pattern CALL = Pattern.compile("\\s*(x\\.\\w+\\(.*\\));\\s+// -> (-?\\d+)( .*)?");
    private static final Pattern NAMED = Pattern.compile("`(\\w+)`");

    private ReadmeTest() {
    }

    public static void main(String[] args) throws Exception {
        Path root = Path.of(System.getProperty("root", "."));
        String readme = Files.readString(root.resolve("README.md"));
        List<String> examples = blocks(readme, "java");
        Due.holds("there are examples", !examples.isEmpty());
        tryExamples(examples);
        commands(root, blocks(readme, "sh"));
        namedTests(root, readme);
        Due.close();
    }

    private static List<String> blocks(String readme, String language) {
        List<String> found = new ArrayList<>();
        Matcher block = Pattern.compile("(?ms)^```" + language + "\n(.*?)^```$").matcher(readme);
        while (block.find()) {
            found.add(block.group(1));
        }
        return found;
    }

    /** Each example is compiled as it stands, but that each answer told is looked at. */
    private static void tryExamples(List<String> examples) throws Exception {
        StringBuilder program = new StringBuilder("final class ReadmeExamples {\n");
        int told = 0;
        for (int i = 0; i < examples.size(); i++) {
            program.append("static void example").append(i).append("(java.util.List<String> wrong) {\n");
            for (String line : examples.get(i).split("\n")) {
                Matcher call = CALL.matcher(line);
                if (call.matches()) {
                    told++;
                    line = "if (" + call.group(1) + " != " + call.group(2) + ") { wrong.add(\""
                        + call.group(1).replace("\"", "'") + "\"); }";
                }
                program.append(line).append('\n');
            }
            program.append("}\n");
        }
        program.append("}\n");
        Due.holds("the examples tell answers", told > 0);
        Path folder = Files.createTempDirectory("readme");
        Path file = folder.resolve("ReadmeExamples.java");
        Files.writeString(file, program);
        try {
            JavaCompiler compiler = ToolProvider.getSystemJavaCompiler();
            Due.is("the examples compile", compiler.run(null, null, null, "-cp",
                System.getProperty("java.class.path"), "-d", folder.toString(), file.toString()), 0);
            runExamples(folder, examples.size());
        } finally {
            Files.deleteIfExists(folder.resolve("ReadmeExamples.class"));
            Files.deleteIfExists(file);
            Files.deleteIfExists(folder);
        }
    }

    private static void runExamples(Path folder, int examples) throws Exception {
        java.net.URL[] where = {folder.toUri().toURL()};
        try (java.net.URLClassLoader loader = new java.net.URLClassLoader(where)) {
            Class<?> made = loader.loadClass("ReadmeExamples");
            for (int i = 0; i < examples; i++) {
                java.lang.reflect.Method example = made.getDeclaredMethod("example" + i, List.class);
                example.setAccessible(true);
                List<String> wrong = new ArrayList<>();
                example.invoke(null, wrong);
                Due.holds("README.md, example " + i + ": otherwise answered are " + wrong, wrong.isEmpty());
            }
        }
    }

    /** They run .ci/run, which runs this test: here it is only looked whether it can be run. */
    private static void commands(Path root, List<String> commands) {
        Due.holds("there is a command", !commands.isEmpty());
        for (String block : commands) {
            for (String line : block.split("\n")) {
                Due.holds("the command " + line, line.matches("bash \\.ci/run( \\d+)?( +#.*)?"));
            }
        }
        Due.holds(".ci/run can be run", Files.isExecutable(root.resolve(".ci/run")));
    }

    /** Every test that is named is there, and every test that is there is named. */
    private static void namedTests(Path root, String readme) throws Exception {
        Path folder = root.resolve("src/test/java");
        Matcher named = NAMED.matcher(readme);
        while (named.find()) {
            if (named.group(1).endsWith("Test")) {
                Due.holds(named.group(1), Files.exists(folder.resolve(named.group(1) + ".java")));
            }
        }
        try (java.util.stream.Stream<Path> files = Files.list(folder)) {
            files.map(f -> f.getFileName().toString()).filter(f -> f.endsWith("Test.java"))
                .forEach(f -> Due.holds("README.md names " + f, readme.contains("`" + f.replace(".java", "") + "`")));
        }
    }
}
