import java.io.IOException;
import java.io.InputStream;
import java.net.URL;
import java.net.URLClassLoader;
import java.nio.file.Files;
import java.nio.file.Path;
import java.util.ArrayList;
import java.util.Comparator;
import java.util.List;
import java.util.regex.Matcher;
import java.util.regex.Pattern;
import java.util.stream.Stream;
import javax.tools.ToolProvider;

/**
 * README.md's example compiles, and each answer that stands behind its calls ("// 145: ..") is the one that comes; the
 * way that it tells for running the tests is there, and runs all of them.
 */
public final class ReadmeTests {
    private static final String WAY = ".ci/run";
    private static final Pattern ANSWER = Pattern.compile("(house\\.\\w+\\(.*\\));\\s*// (-?\\d+)\\b.*");
    private static final int LEAST_ANSWERS = 10;

    public static void main(String[] args) throws Exception {
        Path root = Path.of(args[0]);
        List<String> readme = Files.readAllLines(root.resolve("README.md"));
        example(codeOf(readme, "## Use"));
        way(root, readme);
        Calls.end("ReadmeTests");
    }

    /** The lines that are set in by four blanks behind a title, up to the next title. */
    private static List<String> codeOf(List<String> readme, String title) {
        List<String> r = new ArrayList<>();
        int first = readme.indexOf(title);
        for (int i = first + 1; first >= 0 && i < readme.size() && !readme.get(i).startsWith("#"); i++) {
            if (readme.get(i).startsWith("    ")) {
                r.add(readme.get(i).substring(4));
            }
        }
        return r;
    }

    // ---- the example

    /** Each call with an answer behind it becomes an element of what the program gives. */
    private static void example(List<String> code) throws Exception {
        StringBuilder body = new StringBuilder();
        List<String> calls = new ArrayList<>();
        List<Long> wants = new ArrayList<>();
        for (String line : code) {
            Matcher m = ANSWER.matcher(line);
            if (m.matches()) {
                body.append("r[").append(calls.size()).append("] = ").append(m.group(1)).append(";\n");
                calls.add(m.group(1));
                wants.add(Long.parseLong(m.group(2)));
            } else if (!line.startsWith("javac ")) {
                body.append(line).append('\n');
            }
        }
        Calls.check("README.md", "answers fewer than it should tell", calls.size() < LEAST_ANSWERS ? 1 : 0, 0);
        long[] answers = run("public final class Example { public static long[] answers() {\nlong[] r = new long["
            + calls.size() + "];\n" + body + "return r;\n} }\n");
        for (int i = 0; i < answers.length; i++) {
            Calls.check("README.md", calls.get(i), answers[i], wants.get(i));
        }
    }

    /** Compiles the program beside the classes that this test runs with; what it answers, or nothing. */
    private static long[] run(String program) throws Exception {
        Path folder = Files.createTempDirectory("readme");
        try {
            Path file = folder.resolve("Example.java");
            Files.writeString(file, program);
            int failed = ToolProvider.getSystemJavaCompiler().run(InputStream.nullInputStream(), System.out, System.out,
                "-cp", System.getProperty("java.class.path"), "-d", folder.toString(), file.toString());
            Calls.check("README.md", "compiling its example", failed, 0);
            if (failed != 0) {
                return new long[0];
            }
            try (URLClassLoader loader = new URLClassLoader(new URL[] {folder.toUri().toURL()})) {
                return (long[]) loader.loadClass("Example").getMethod("answers").invoke(null);
            }
        } finally {
            remove(folder);
        }
    }

    private static void remove(Path folder) throws IOException {
        try (Stream<Path> all = Files.walk(folder)) {
            for (Path p : all.sorted(Comparator.reverseOrder()).toList()) {
                Files.delete(p);
            }
        }
    }

    // ---- the way

    private static void way(Path root, List<String> readme) throws IOException {
        boolean told = codeOf(readme, "## Tests").contains(WAY);
        Calls.check("README.md", "tells " + WAY, told ? 1 : 0, 1);
        Path way = root.resolve(WAY);
        Calls.check("README.md", WAY + " is there", Files.isRegularFile(way) ? 1 : 0, 1);
        String script = Files.readString(way);
        String all = String.join("\n", readme);
        Calls.check(WAY, "runs ../shared/tests", script.contains("\"$shared\"/tests/*.java") ? 1 : 0, 1);
        try (Stream<Path> files = Files.list(root.resolve("src/test/java"))) {
            for (Path p : files.toList()) {
                if (Files.readString(p).contains("public static void main(")) {
                    String name = p.getFileName().toString().replace(".java", "");
                    Calls.check(WAY, "runs " + name, script.contains("run " + name + " java") ? 1 : 0, 1);
                    Calls.check("README.md", "tells of " + name, all.contains("`" + name + "`") ? 1 : 0, 1);
                }
            }
        }
    }
}
