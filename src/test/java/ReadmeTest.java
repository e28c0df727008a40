import java.io.IOException;
import java.nio.file.Files;
import java.nio.file.Path;
import java.util.regex.Matcher;
import java.util.regex.Pattern;
import java.util.stream.Stream;
import javax.tools.ToolProvider;

/**
 * README.md: its program compiles and prints what README.md says, and each method of the document is
 * named there. It is run from the project's own directory.
 */
final class ReadmeTest {
    private static final String CLASS = "src/main/java/CanalLocks.java";

    public static void main(String[] args) throws IOException, InterruptedException {
        Path shared = Path.of(args.length > 0 ? args[0] : "../shared");
        String readme = Files.readString(Path.of("README.md"));
        Path room = Files.createTempDirectory("readme");
        Check.same("what the program prints", block(readme, "text"),
                outputOf(block(readme, "java"), room));
        empty(room);
        namesEachMethod(readme, Files.readString(shared.resolve("DOC.md")));
        Check.end();
    }

    /** The first block of this language. */
    private static String block(String text, String language) {
        Matcher matcher = Pattern.compile("(?s)```" + language + "\n(.*?)```").matcher(text);
        return matcher.find() ? matcher.group(1) : "no block of " + language;
    }

    private static String outputOf(String program, Path room) throws IOException, InterruptedException {
        Matcher name = Pattern.compile("public final class (\\w+)").matcher(program);
        if (!name.find()) {
            return "no class";
        }
        Path source = room.resolve(name.group(1) + ".java");
        Files.writeString(source, program);
        int failed = ToolProvider.getSystemJavaCompiler()
                .run(null, null, null, "-d", room.toString(), CLASS, source.toString());
        if (failed != 0) {
            return "does not compile";
        }
        Path java = Path.of(System.getProperty("java.home"), "bin", "java");
        Process process = new ProcessBuilder(java.toString(), "-cp", room.toString(), name.group(1))
                .redirectErrorStream(true).start();
        String output = new String(process.getInputStream().readAllBytes());
        return process.waitFor() == 0 ? output : "it ended with an error: " + output;
    }

    private static void empty(Path room) throws IOException {
        try (Stream<Path> files = Files.list(room)) {
            for (Path file : files.toList()) {
                Files.delete(file);
            }
        }
        Files.delete(room);
    }

    private static void namesEachMethod(String readme, String document) {
        Matcher head = Pattern.compile("(?m)^    public \\w+ (\\w+)\\(").matcher(document);
        int methods = 0;
        while (head.find()) {
            methods++;
            Check.holds("README.md names " + head.group(1),
                    Pattern.compile("`" + head.group(1) + "[`(]").matcher(readme).find());
        }
        Check.same("the methods of the document", 53, methods);
    }
}
