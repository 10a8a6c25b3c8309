import java.io.ByteArrayOutputStream;
import java.io.IOException;
import java.io.InputStream;
import java.nio.charset.StandardCharsets;
import java.nio.file.Files;
import java.nio.file.Path;

/** The program that README.md shows compiles as it stands there, and prints what README.md says. */
public final class ReadmeTest {
    private ReadmeTest() {
    }

    public static void main(String[] args) throws IOException, InterruptedException {
        String readme = Files.readString(Path.of("README.md"));
        Path made = Files.createTempDirectory("readme");
        Path source = made.resolve("Example.java");
        try {
            Files.writeString(source, block(readme, "java"));
            compile(source);
            String paths = classes() + System.getProperty("path.separator") + made;
            String[] got = run("java", "-cp", paths, "Example").split("\n");
            String[] due = block(readme, "text").split("\n");
            Checks.same("lines", got.length, due.length);
            for (int line = 0; line < Math.min(got.length, due.length); line++) {
                Checks.holds("prints \"" + due[line] + "\", got \"" + got[line] + "\"", got[line].equals(due[line]));
            }
        } finally {
            Files.deleteIfExists(made.resolve("Example.class"));
            Files.deleteIfExists(source);
            Files.deleteIfExists(made);
        }
        Checks.end();
    }

    /** What stands in the only block of this language. */
    private static String block(String readme, String language) {
        String opening = "```" + language + "\n";
        String[] parts = readme.split(opening, -1);
        Checks.same("blocks of " + language, parts.length - 1, 1);
        String rest = parts[parts.length - 1];
        return rest.substring(0, Math.max(rest.indexOf("```"), 0));
    }

    private static String classes() {
        return Path.of(System.getProperty("java.class.path")).toAbsolutePath().toString();
    }

    private static void compile(Path source) throws IOException, InterruptedException {
        run("javac", "-Xlint:all", "-Werror", "-cp", classes(), "-d", source.getParent().toString(), source.toString());
    }

    /** What a command prints, but for its errors: those are shown as they come. */
    private static String run(String... command) throws IOException, InterruptedException {
        Process process = new ProcessBuilder(command).redirectError(ProcessBuilder.Redirect.INHERIT).start();
        ByteArrayOutputStream printed = new ByteArrayOutputStream();
        try (InputStream output = process.getInputStream()) {
            output.transferTo(printed);
        }
        Checks.same("exit code of " + command[0], process.waitFor(), 0);
        return printed.toString(StandardCharsets.UTF_8);
    }
}
