import java.io.ByteArrayOutputStream;
import java.io.IOException;
import java.io.PrintStream;
import java.net.URL;
import java.net.URLClassLoader;
import java.nio.charset.StandardCharsets;
import java.nio.file.Files;
import java.nio.file.Path;
import java.util.ArrayList;
import java.util.Comparator;
import java.util.List;
import java.util.stream.Stream;
import javax.tools.ToolProvider;

/** README.md's program, as it is written there: it compiles, and prints what stands beside it. */
public final class ReadmeTest {
    private static final String START = "```java";
    private static final String END = "```";
    private static final String REMARK = "// ";

    public static void main(String[] args) throws Exception {
        List<String> program = program(Files.readAllLines(Path.of("README.md")));
        List<String> due = answers(program);
        Check.due("README.md's program has answers", due.isEmpty(), false);
        Path folder = Files.createTempDirectory("readme");
        try {
            List<String> got = compiled(program, folder) ? printed(folder) : List.of("an error of the compiler");
            for (int i = 0; i < Math.min(due.size(), got.size()); i++) {
                Check.due("answer " + (i + 1) + " of README.md's program", got.get(i), due.get(i));
            }
            Check.due("how many answers README.md's program has", got.size(), due.size());
        } finally {
            delete(folder);
        }
        Check.finish();
    }

    private static List<String> program(List<String> readme) {
        int start = readme.indexOf(START) + 1;
        List<String> rest = readme.subList(start, readme.size());
        return rest.subList(0, rest.indexOf(END));
    }

    /** What stands beside each println: the words of its remark up to the colon. */
    private static List<String> answers(List<String> program) {
        List<String> answers = new ArrayList<>();
        for (String line : program) {
            if (line.contains("println")) {
                Check.due("a remark beside " + line.strip(), line.contains(REMARK), true);
                String remark = line.substring(line.indexOf(REMARK) + REMARK.length());
                answers.addAll(List.of(remark.split(":")[0].strip().split(" ")));
            }
        }
        return answers;
    }

    private static boolean compiled(List<String> program, Path folder) throws IOException {
        Path file = Files.write(folder.resolve("Example.java"), program);
        String classes = System.getProperty("java.class.path");
        int errors = ToolProvider.getSystemJavaCompiler().run(null, null, null,
            "--release", "17", "-Xlint:all", "-Werror", "-cp", classes, "-d", folder.toString(), file.toString());
        return errors == 0;
    }

    private static List<String> printed(Path folder) throws Exception {
        PrintStream console = System.out;
        ByteArrayOutputStream kept = new ByteArrayOutputStream();
        try (URLClassLoader loader = new URLClassLoader(new URL[] {folder.toUri().toURL()})) {
            System.setOut(new PrintStream(kept, true, StandardCharsets.UTF_8));
            String[] arguments = {};
            loader.loadClass("Example").getMethod("main", String[].class).invoke(null, (Object) arguments);
        } finally {
            System.setOut(console);
        }
        return kept.toString(StandardCharsets.UTF_8).lines().toList();
    }

    private static void delete(Path folder) throws IOException {
        try (Stream<Path> all = Files.walk(folder)) {
            for (Path one : all.sorted(Comparator.reverseOrder()).toList()) {
                Files.delete(one);
            }
        }
    }
}
