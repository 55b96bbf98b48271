import java.io.ByteArrayOutputStream;
import java.io.IOException;
import java.io.PrintStream;
import java.net.URL;
import java.net.URLClassLoader;
import java.nio.file.Files;
import java.nio.file.Path;
import java.util.Comparator;
import java.util.List;
import java.util.stream.Stream;
import javax.tools.ToolProvider;

/** The program that README.md shows compiles against the class and prints what README.md says. */
public final class ReadmeTest {
    private static final Due due = new Due();

    public static void main(String[] args) throws Exception {
        due.by("README.md");
        String readme = Files.readString(Path.of("README.md"));
        Path work = Files.createTempDirectory("readme");
        try {
            List<String> got = printed(block(readme, "java"), work).lines().toList();
            List<String> said = block(readme, "output").lines().toList();
            due.is("lines printed", got.size(), said.size());
            for (int i = 0; i < Math.min(got.size(), said.size()); i++) {
                due.is("line <" + got.get(i) + "> is <" + said.get(i) + ">", got.get(i).equals(said.get(i)) ? 1 : 0, 1);
            }
        } finally {
            delete(work);
        }
        due.end("ReadmeTest");
    }

    private static String block(String readme, String kind) {
        String opening = "```" + kind + "\n";
        int from = readme.indexOf(opening);
        int to = from < 0 ? -1 : readme.indexOf("\n```", from);
        due.is("README.md has a block of " + kind, to < 0 ? 0 : 1, 1);
        return to < 0 ? "" : readme.substring(from + opening.length(), to);
    }

    private static String printed(String program, Path work) throws Exception {
        Path source = work.resolve("Example.java");
        Files.writeString(source, program);
        String classes = System.getProperty("java.class.path");
        int rc = ToolProvider.getSystemJavaCompiler().run(null, null, null,
                "-cp", classes, "-d", work.toString(), source.toString());
        due.is("compiling the program", rc, 0);
        if (rc != 0) {
            return "";
        }
        PrintStream usual = System.out;
        ByteArrayOutputStream bytes = new ByteArrayOutputStream();
        try (URLClassLoader loader = new URLClassLoader(new URL[] {work.toUri().toURL()});
                PrintStream caught = new PrintStream(bytes, true)) {
            System.setOut(caught);
            loader.loadClass("Example").getMethod("main", String[].class).invoke(null, (Object) new String[0]);
        } finally {
            System.setOut(usual);
        }
        return bytes.toString();
    }

    private static void delete(Path work) throws IOException {
        try (Stream<Path> all = Files.walk(work)) {
            for (Path path : all.sorted(Comparator.reverseOrder()).toList()) {
                Files.delete(path);
            }
        }
    }
}
