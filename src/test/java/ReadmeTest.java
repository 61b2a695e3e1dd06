import java.io.IOException;
import java.nio.file.Files;
import java.nio.file.Path;
import java.util.ArrayList;
import java.util.List;
import java.util.regex.Matcher;
import java.util.regex.Pattern;

/** The program in README.md: it compiles, and shows the answers that stand behind its calls. */
public final class ReadmeTest {
    private static final Pattern PROGRAM = Pattern.compile("```java\n(.*?)```", Pattern.DOTALL);
    private static final Pattern SHOWN = Pattern.compile("show\\(past.* // (-?[0-9]+):");

    private ReadmeTest() {
    }

    public static void main(String[] args) throws IOException, InterruptedException {
        String program = programIn(Files.readString(Path.of("README.md")));
        List<String> promised = promisedBy(program);
        Check.due("the program shows something", false, promised.isEmpty());
        Check.due("what it shows", promised, shownBy(program));
        Check.end("ReadmeTest");
    }

    private static String programIn(String readme) {
        Matcher program = PROGRAM.matcher(readme);
        return program.find() ? program.group(1) : "";
    }

    private static List<String> promisedBy(String program) {
        List<String> promised = new ArrayList<>();
        Matcher shown = SHOWN.matcher(program);
        while (shown.find()) {
            promised.add(shown.group(1));
        }
        return promised;
    }

    private static List<String> shownBy(String program) throws IOException, InterruptedException {
        Path folder = Files.createTempDirectory("readme");
        Path source = folder.resolve("Example.java");
        Path shown = folder.resolve("shown");
        Files.writeString(source, program);
        try {
            String java = Path.of(System.getProperty("java.home"), "bin", "java").toString();
            new ProcessBuilder(java, "-cp", System.getProperty("java.class.path"),
                    source.toString())
                    .redirectErrorStream(true).redirectOutput(shown.toFile()).start().waitFor();
            return Files.readAllLines(shown);
        } finally {
            Files.deleteIfExists(shown);
            Files.deleteIfExists(source);
            Files.deleteIfExists(folder);
        }
    }
}
