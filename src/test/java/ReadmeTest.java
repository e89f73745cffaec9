import java.io.IOException;
import java.io.InputStream;
import java.lang.reflect.Method;
import java.lang.reflect.Modifier;
import java.nio.file.Files;
import java.nio.file.Path;
import java.util.List;
import javax.tools.ToolProvider;

/** What README.md says of the class: its program prints what stands there, no call is left out. */
public final class ReadmeTest {
    private static final Checks CHECKS = new Checks();
    private static final Path OUT = Path.of("build/readme");
    private static final String CLASS = "Song";

    public static void main(String[] args) throws Exception {
        String readme = Files.readString(Path.of("README.md"));
        program(readme);
        calls(readme);
        CHECKS.end("ReadmeTest");
    }

    /** The first block of this kind, or nothing if there is none. */
    private static String block(String readme, String kind) {
        String opening = "```" + kind + "\n";
        int begin = readme.indexOf(opening);
        int end = begin < 0 ? -1 : readme.indexOf("```", begin + opening.length());
        return end < 0 ? "" : readme.substring(begin + opening.length(), end);
    }

    private static void program(String readme) throws IOException {
        Files.createDirectories(OUT);
        Path file = OUT.resolve(CLASS + ".java");
        Files.writeString(file, block(readme, "java"));
        int compiled = ToolProvider.getSystemJavaCompiler().run(null, null, null, "-Xlint:all",
                "-Werror", "-proc:none", "-d", OUT.toString(), file.toString(),
                "src/main/java/ChordSheet.java");
        CHECKS.due("compiling the program of README.md", 0, compiled);
        CHECKS.due("the program of README.md", block(readme, "text"), printed());
    }

    private static String printed() throws IOException {
        Process process = new ProcessBuilder(List.of("java", "-cp", OUT.toString(), CLASS))
                .redirectErrorStream(true).start();
        try (InputStream stream = process.getInputStream()) {
            return new String(stream.readAllBytes());
        }
    }

    private static void calls(String readme) {
        for (Method method : ChordSheet.class.getDeclaredMethods()) {
            if (Modifier.isPublic(method.getModifiers())) {
                CHECKS.due(method.getName() + " stands in README.md", true,
                        readme.contains("`" + method.getName() + "`"));
            }
        }
    }
}
