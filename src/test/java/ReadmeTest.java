import java.io.IOException;
import java.nio.charset.StandardCharsets;
import java.nio.file.Files;
import java.nio.file.Path;
import java.util.concurrent.TimeUnit;
import javax.tools.ToolProvider;

/** The example in README.md compiles, and prints what README.md says; run from the project's root. */
public final class ReadmeTest {
    public static void main(String[] args) throws IOException, InterruptedException {
        String readme = Files.readString(Path.of("README.md"));
        Path out = Files.createTempDirectory("readme");
        Path source = out.resolve("Example.java");
        Path printed = out.resolve("printed");
        try {
            Files.writeString(source, fenced(readme, "java"));
            Trial.due("javac", compile(source, out), 0);
            Trial.due("exit code", run(out, printed), 0);
            Trial.due("the example", Files.readString(printed, StandardCharsets.ISO_8859_1), fenced(readme, "text"));
        } finally {
            for (String name : new String[] {"Example.java", "Example.class", "printed"}) {
                Files.deleteIfExists(out.resolve(name));
            }
            Files.deleteIfExists(out);
        }
        Trial.end();
    }

    /** What stands in the first fence of this kind, which is empty when there is none. */
    private static String fenced(String text, String kind) {
        String opening = "```" + kind + "\n";
        int start = text.indexOf(opening);
        int end = text.indexOf("```\n", start + opening.length());
        boolean found = start >= 0 && end >= 0;
        Trial.due("README.md has a fence of " + kind, found, true);
        return found ? text.substring(start + opening.length(), end) : "";
    }

    private static int compile(Path source, Path out) {
        return ToolProvider.getSystemJavaCompiler().run(null, System.out, System.out,
                "-cp", System.getProperty("java.class.path"), "-d", out.toString(), source.toString());
    }

    private static int run(Path out, Path printed) throws IOException, InterruptedException {
        String path = System.getProperty("java.class.path") + System.getProperty("path.separator") + out;
        String java = Path.of(System.getProperty("java.home"), "bin", "java").toString();
        Process example = new ProcessBuilder(java, "-cp", path, "Example")
                .redirectErrorStream(true).redirectOutput(printed.toFile()).start();
        if (!example.waitFor(60, TimeUnit.SECONDS)) {
            example.destroyForcibly().waitFor();
            return -1;
        }
        return example.exitValue();
    }
}
