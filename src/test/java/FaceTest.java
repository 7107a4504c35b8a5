import java.io.IOException;
import java.lang.reflect.Constructor;
import java.lang.reflect.Method;
import java.lang.reflect.Modifier;
import java.nio.file.Files;
import java.nio.file.Path;
import java.util.ArrayList;
import java.util.Arrays;
import java.util.List;
import java.util.Set;
import java.util.TreeSet;
import java.util.regex.Matcher;
import java.util.regex.Pattern;

/** The public face as the document prints it, and rules of LANGUAGE.md that a text shows. */
public final class FaceTest {
    public static void main(String[] args) throws IOException {
        String document = Files.readString(Path.of("../shared/DOC.md"));
        String source = Files.readString(Path.of(System.getProperty("project.source",
                "src/main/java/MoonFerryOffice.java")));
        face(document);
        members();
        names(source);
        words(source);
        lengths(source);
        Check.end();
    }

    private static void face(String document) {
        int start = document.indexOf("public final class");
        String face = document.substring(start, document.indexOf("```", start));
        Set<String> due = new TreeSet<>();
        Matcher line = Pattern.compile("public (\\w+) (\\w+)\\(([^)]*)\\)(?: throws ([^;]+))?;").matcher(face);
        while (line.find()) {
            String types = line.group(3).replaceAll(" \\w+(, |$)", " ").trim();
            String failures = line.group(4) == null ? "" : line.group(4);
            due.add(line.group(1) + " " + line.group(2) + " (" + types + ") " + failures);
        }
        Set<String> got = new TreeSet<>();
        for (Method method : MoonFerryOffice.class.getDeclaredMethods()) {
            if (Modifier.isPublic(method.getModifiers())) {
                got.add(written(method));
            }
        }
        Check.due("public methods", due.size(), 60);
        Check.due("public methods", got, due);
        Constructor<?>[] constructors = MoonFerryOffice.class.getConstructors();
        Check.due("public constructors", constructors.length, 1);
        Check.due("its parameters", constructors[0].getParameterCount(), 0);
        Check.due("final", Modifier.isFinal(MoonFerryOffice.class.getModifiers()), true);
    }

    private static String written(Method method) {
        List<String> types = new ArrayList<>();
        Arrays.stream(method.getParameterTypes()).forEach(t -> types.add(t.getSimpleName()));
        List<String> failures = new ArrayList<>();
        Arrays.stream(method.getExceptionTypes()).forEach(t -> failures.add(t.getSimpleName()));
        return method.getReturnType().getSimpleName() + " " + method.getName() + " ("
                + String.join(" ", types) + ") " + String.join(", ", failures);
    }

    private static void members() {
        for (Method method : MoonFerryOffice.class.getDeclaredMethods()) {
            int modifiers = method.getModifiers();
            Check.due("private or public: " + method.getName(),
                    Modifier.isPublic(modifiers) || Modifier.isPrivate(modifiers), true);
        }
        Arrays.stream(MoonFerryOffice.class.getDeclaredFields()).forEach(field -> {
            int modifiers = field.getModifiers();
            Check.due("private: " + field.getName(), Modifier.isPrivate(modifiers), true);
            Check.due("final if static: " + field.getName(),
                    !Modifier.isStatic(modifiers) || Modifier.isFinal(modifiers), true);
        });
        Class<?>[] classes = MoonFerryOffice.class.getDeclaredClasses();
        Check.due("at most twelve classes", classes.length + 1 <= 12, true);
        for (Class<?> inside : classes) {
            Check.due("static: " + inside.getName(), Modifier.isStatic(inside.getModifiers()), true);
            Check.due("not public: " + inside.getName(), Modifier.isPublic(inside.getModifiers()), false);
        }
    }

    private static void names(String source) {
        Set<String> open = new TreeSet<>();
        Arrays.stream(MoonFerryOffice.class.getMethods()).forEach(m -> open.add(m.getName()));
        Matcher method = Pattern.compile("\n +(public )?(?:(?:private|static) )*[\\w\\[\\]]+ (\\w+)\\([^;{]*\\{").matcher(source);
        while (method.find()) {
            if (method.group(1) == null) {
                Check.due("a name of its own: " + method.group(2), open.contains(method.group(2)), false);
            }
        }
    }

    private static void words(String source) {
        String[] banned = {"->", "::", "catch", "finally", "synchronized", "assert ", "Exact", "\" +", "+ \"",
            "package ", "System.out", "Random", "Thread", "getMessage", "\t"};
        for (String word : banned) {
            Check.due("without " + word, source.contains(word), false);
        }
        Matcher imports = Pattern.compile("import ([\\w.]+);").matcher(source);
        while (imports.find()) {
            Check.due("import " + imports.group(1), imports.group(1).matches(
                    "java\\.util\\.(Arrays|NoSuchElementException)"), true);
        }
    }

    private static void lengths(String source) {
        String[] lines = source.split("\n");
        int start = -1;
        String indent = "";
        for (int i = 0; i < lines.length; i++) {
            Check.due("line " + (i + 1) + " is at most 110 long", lines[i].length() <= 110, true);
            Matcher head = Pattern.compile("^( {4}| {8})\\S.*\\) ?[\\w, ]*\\{$").matcher(lines[i]);
            if (start < 0 && head.find()) {
                start = i;
                indent = head.group(1);
            } else if (start >= 0 && lines[i].equals(indent + "}")) {
                Check.due("method at line " + (start + 1) + " is short", i - start < 60, true);
                start = -1;
            }
        }
    }
}
