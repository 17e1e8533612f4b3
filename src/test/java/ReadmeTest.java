import java.io.File;
import java.io.IOException;
import java.nio.charset.StandardCharsets;
import java.nio.file.Files;
import java.nio.file.Path;

/** The program that README.md shows can be compiled as it stands there, and prints what README.md says. */
public final class ReadmeTest {
    public static void main(String[] args) throws IOException, InterruptedException {
        String readme = Files.readString(Path.of("README.md"));
        String due = block(readme, "text");
        String printed = outputOf(block(readme, "java"));
        boolean same = printed.equals(due);
        System.out.println(same ? "README.md's program prints what it says" : "it printed\n" + printed + "due is\n" + due);
        if (!same) {
            System.exit(1);
        }
    }

    /** The first block of README.md with this mark. */
    private static String block(String readme, String mark) {
        String open = "```" + mark + "\n";
        int from = readme.indexOf(open);
        int to = from < 0 ? -1 : readme.indexOf("```", from + open.length());
        if (to < 0) {
            throw new IllegalStateException("README.md has no block " + mark);
        }
        return readme.substring(from + open.length(), to);
    }

    private static String outputOf(String program) throws IOException, InterruptedException {
        Path directory = Files.createTempDirectory("readme");
        Path source = Files.writeString(directory.resolve("Example.java"), program);
        String classes = System.getProperty("java.class.path");
        try {
            String refusal = printedBy("javac", "-cp", classes, "-d", directory.toString(), source.toString());
            return refusal + printedBy("java", "-cp", directory + File.pathSeparator + classes, "Example");
        } finally {
            Files.deleteIfExists(directory.resolve("Example.class"));
            Files.delete(source);
            Files.delete(directory);
        }
    }

    /** Errors go to the console of the test: a machine's own words among them are no fault of README.md. */
    private static String printedBy(String... command) throws IOException, InterruptedException {
        Process process = new ProcessBuilder(command).redirectError(ProcessBuilder.Redirect.INHERIT).start();
        String printed = new String(process.getInputStream().readAllBytes(), StandardCharsets.UTF_8);
        int exit = process.waitFor();
        return (exit == 0 ? printed : printed + command[0] + " ended with " + exit + "\n").replace(System.lineSeparator(), "\n");
    }
}
