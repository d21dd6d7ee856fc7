import java.io.IOException;
import java.io.UncheckedIOException;
import java.net.URL;
import java.net.URLClassLoader;
import java.nio.file.Files;
import java.nio.file.Path;
import java.util.Comparator;
import java.util.List;
import java.util.stream.Stream;
import javax.tools.ToolProvider;

/** The example of README.md, as it stands there, can be compiled and ends with what it says. */
public final class ReadmeTest {

    private static final int COMMITTED = 3;
    private static final String FENCE = "```";

    public static void main(String[] args) throws Exception {
        Probe p = new Probe();
        Path place = Files.createTempDirectory("readme");
        try {
            SnapCluster x = runIn(place, example(Files.readAllLines(Path.of("README.md"))));
            p.due("what session 0 is", x.sessionOf(0, 0), COMMITTED);
            p.due("key 5 at the replica that was asked", x.valueAt(1, 5, x.replicaOf(1, 1)), 1);
        } finally {
            remove(place);
        }
        p.end("ReadmeTest");
    }

    /** The lines of the first block of Java. */
    private static String example(List<String> lines) {
        int start = lines.indexOf(FENCE + "java") + 1;
        int count = lines.subList(start, lines.size()).indexOf(FENCE);
        return String.join("\n", lines.subList(start, start + count));
    }

    private static SnapCluster runIn(Path place, String example) throws Exception {
        Path source = place.resolve("Example.java");
        Files.writeString(source, "public final class Example { public static SnapCluster run() {\n"
            + example + "\nreturn x; } }\n");
        int answer = ToolProvider.getSystemJavaCompiler().run(null, null, null, "-cp",
            System.getProperty("java.class.path"), "-d", place.toString(), source.toString());
        if (answer != 0) {
            throw new IllegalStateException("the example of README.md does not compile");
        }
        try (URLClassLoader loader = new URLClassLoader(new URL[] {place.toUri().toURL()})) {
            return (SnapCluster) loader.loadClass("Example").getMethod("run").invoke(null);
        }
    }

    private static void remove(Path place) throws IOException {
        try (Stream<Path> all = Files.walk(place)) {
            all.sorted(Comparator.reverseOrder()).forEach(ReadmeTest::removeOne);
        }
    }

    private static void removeOne(Path one) {
        try {
            Files.delete(one);
        } catch (IOException e) {
            throw new UncheckedIOException(e);
        }
    }
}
