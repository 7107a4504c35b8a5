import java.io.IOException;
import java.net.URL;
import java.net.URLClassLoader;
import java.nio.file.Files;
import java.nio.file.Path;
import java.util.Comparator;
import java.util.List;
import java.util.stream.Stream;
import javax.tools.JavaCompiler;
import javax.tools.ToolProvider;

/** Classes that a test writes itself, or that it alters: a source text, compiled and loaded. */
final class Compiled {
    private Compiled() {
    }

    /** The class with a row written differently; the row stands in it exactly once. */
    static Class<?> variant(String row, String instead) {
        String source = source();
        int at = source.indexOf(row);
        if (at < 0 || source.indexOf(row, at + 1) >= 0) {
            throw new IllegalStateException("does not stand once in the class: " + row);
        }
        return load("MoonFerryOffice", source.replace(row, instead), ClassLoader.getPlatformClassLoader());
    }

    private static String source() {
        try {
            return Files.readString(Path.of(System.getProperty("project.source",
                    "src/main/java/MoonFerryOffice.java")));
        } catch (IOException e) {
            throw new IllegalStateException(e);
        }
    }

    static Class<?> load(String name, String source, ClassLoader parent) {
        try {
            Path directory = Files.createTempDirectory("compiled");
            try {
                return load(directory, name, source, parent);
            } finally {
                delete(directory);
            }
        } catch (IOException | ClassNotFoundException e) {
            throw new IllegalStateException(e);
        }
    }

    private static Class<?> load(Path directory, String name, String source, ClassLoader parent)
            throws IOException, ClassNotFoundException {
        Path file = Files.writeString(directory.resolve(name + ".java"), source);
        JavaCompiler compiler = ToolProvider.getSystemJavaCompiler();
        int failed = compiler.run(null, null, null, "-d", directory.toString(),
                "-cp", System.getProperty("java.class.path"), file.toString());
        if (failed != 0) {
            throw new IllegalStateException(name + " does not compile");
        }
        try (URLClassLoader loader = new URLClassLoader(new URL[] {directory.toUri().toURL()}, parent)) {
            Class<?> type = loader.loadClass(name);
            // The directory is deleted afterwards, so the classes inside are loaded now.
            for (Class<?> inside : type.getDeclaredClasses()) {
                Class.forName(inside.getName(), true, loader);
            }
            return type;
        }
    }

    private static void delete(Path directory) throws IOException {
        List<Path> files;
        try (Stream<Path> found = Files.walk(directory)) {
            files = found.sorted(Comparator.reverseOrder()).toList();
        }
        for (Path file : files) {
            Files.delete(file);
        }
    }
}
