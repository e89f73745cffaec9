import java.io.IOException;
import java.io.InputStream;
import java.nio.file.Files;
import java.nio.file.Path;
import java.util.ArrayList;
import java.util.List;
import java.util.Set;
import java.util.TreeSet;
import java.util.concurrent.Callable;
import java.util.concurrent.ExecutorService;
import java.util.concurrent.Executors;
import java.util.concurrent.Future;
import java.util.concurrent.TimeUnit;
import javax.tools.ToolProvider;

/**
 * Breaks the class in one place after the other, as breaks.txt tells, and looks whether the test
 * of the sentence that is broken fails. Each sentence that has a test must be broken at least once.
 */
public final class SentenceBreaks {
    private static final Path SOURCE = Path.of("src/main/java/ChordSheet.java");
    private static final Path TABLE = Path.of("src/breaks/breaks.txt");
    private static final Path TESTS = Path.of("build/project");
    private static final Path OUT = Path.of("build/breaks");
    private static final int SECONDS = 60;

    private static final class Break {
        private final String test;
        private final String sentence;
        private String in = "";
        private final List<String> from = new ArrayList<>();
        private final List<String> to = new ArrayList<>();

        Break(String test, String sentence) {
            this.test = test;
            this.sentence = sentence;
        }

        /** The source with this break, or null if its place is not found. */
        String of(String source) {
            int begin = source.indexOf(in);
            String broken = source;
            for (int n = 0; n < from.size(); n++) {
                int at = begin < 0 ? -1 : broken.indexOf(from.get(n), begin);
                if (at < 0) {
                    return null;
                }
                broken = broken.substring(0, at) + to.get(n)
                        + broken.substring(at + from.get(n).length());
            }
            return broken;
        }
    }

    public static void main(String[] args) throws Exception {
        List<Break> breaks = table();
        ExecutorService pool =
                Executors.newFixedThreadPool(Runtime.getRuntime().availableProcessors());
        List<Future<String>> faults = new ArrayList<>();
        String source = Files.readString(SOURCE);
        for (int n = 0; n < breaks.size(); n++) {
            Break one = breaks.get(n);
            Path out = OUT.resolve(String.valueOf(n));
            Callable<String> call = () -> faultOf(one, source, out);
            faults.add(pool.submit(call));
        }
        int wrong = 0;
        for (int n = 0; n < faults.size(); n++) {
            String fault = faults.get(n).get();
            if (!fault.isEmpty()) {
                wrong++;
                Break one = breaks.get(n);
                System.out.println(one.test + " \"" + one.sentence + "\" with " + one.to + ": "
                        + fault);
            }
        }
        pool.shutdown();
        wrong += unbroken(breaks);
        System.out.println(breaks.size() + " breaks, " + wrong + " wrong");
        System.exit(wrong == 0 ? 0 : 1);
    }

    private static List<Break> table() throws IOException {
        List<Break> breaks = new ArrayList<>();
        String test = "";
        for (String line : Files.readAllLines(TABLE)) {
            String word = line.contains(" ") ? line.substring(0, line.indexOf(' ')) : line;
            String rest = line.substring(Math.min(line.length(), word.length() + 1));
            Break last = breaks.isEmpty() ? null : breaks.get(breaks.size() - 1);
            switch (word) {
                case "test" -> test = rest;
                case "sentence" -> breaks.add(new Break(test, rest));
                case "in" -> last.in = rest;
                case "-" -> last.from.add(rest);
                case "+" -> last.to.add(rest);
                default -> { }
            }
        }
        return breaks;
    }

    private static String faultOf(Break one, String source, Path out) throws Exception {
        String broken = one.of(source);
        if (broken == null) {
            return "its place is not found";
        }
        Files.createDirectories(out);
        Path file = out.resolve("ChordSheet.java");
        Files.writeString(file, broken);
        int compiled = ToolProvider.getSystemJavaCompiler().run(null, null, null, "-proc:none",
                "-d", out.toString(), file.toString());
        if (compiled != 0) {
            return "it does not compile";
        }
        String told = told(one.test, out + ":" + TESTS);
        return told.contains("\"" + one.sentence + "\": ") ? "" : "its test does not fail";
    }

    /** What a test prints, which is run on its own as it ends the machine. */
    private static String told(String test, String classes, String... options) throws Exception {
        List<String> command = new ArrayList<>(List.of("java", "-XX:+UseSerialGC", "-cp", classes));
        command.addAll(List.of(options));
        command.add(test);
        Process process = new ProcessBuilder(command).redirectErrorStream(true).start();
        StringBuilder told = new StringBuilder();
        Thread reader = new Thread(() -> readAll(process, told));
        reader.start();
        if (!process.waitFor(SECONDS, TimeUnit.SECONDS)) {
            process.destroyForcibly();
        }
        reader.join();
        return told.toString();
    }

    private static void readAll(Process process, StringBuilder told) {
        try (InputStream stream = process.getInputStream()) {
            told.append(new String(stream.readAllBytes()));
        } catch (IOException e) {
            told.append(e);
        }
    }

    private static int unbroken(List<Break> breaks) throws Exception {
        Set<String> tests = new TreeSet<>();
        Set<String> broken = new TreeSet<>();
        for (Break one : breaks) {
            tests.add(one.test);
            broken.add("\"" + one.sentence + "\": ");
        }
        int wrong = 0;
        for (String test : tests) {
            for (String line : told(test, TESTS.toString(), "-Dsentences=true").split("\n")) {
                if (line.startsWith("\"") && !broken.contains(line)) {
                    wrong++;
                    System.out.println(test + " has no break for " + line);
                }
            }
        }
        return wrong;
    }
}
