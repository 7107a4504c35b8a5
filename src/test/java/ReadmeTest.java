import java.io.IOException;
import java.nio.file.Files;
import java.nio.file.Path;
import java.util.regex.Matcher;
import java.util.regex.Pattern;

/** The examples in README.md: each call answers what the comment behind it tells, or throws what it tells. */
public final class ReadmeTest {
    private static final Pattern EXAMPLE = Pattern.compile("```java\n(.*?)```", Pattern.DOTALL);
    private static final Pattern ANSWER = Pattern.compile("(int (\\w+) = )?(.+); +// (-?\\d+): .+");
    private static final Pattern FAILURE = Pattern.compile("(.+); +// throws (\\w+): .+");

    private static int told = 0;

    public static void main(String[] args) throws IOException, ReflectiveOperationException {
        Matcher example = EXAMPLE.matcher(Files.readString(Path.of("README.md")));
        int examples = 0;
        while (example.find()) {
            examples++;
            String name = "Example" + examples;
            Compiled.load(name, written(name, example.group(1)), ReadmeTest.class.getClassLoader())
                    .getMethod("run").invoke(null);
        }
        Check.due("examples", examples, 3);
        Check.due("answers told", told >= 25, true);
        Check.end();
    }

    private static String written(String name, String example) {
        StringBuilder body = new StringBuilder();
        for (String line : example.split("\n")) {
            body.append(checked(line)).append('\n');
        }
        return "public class " + name + " { public static void run() {\n" + body + "}\n"
                + "static void due(String call, long got, int due) {"
                + " if (got != due) throw new IllegalStateException(call + \" answered \" + got); }\n"
                + "static void fails(String call, Class<?> due, Runnable run) { Object got = null;"
                + " try { run.run(); } catch (RuntimeException e) { got = e.getClass(); }"
                + " if (got != due) throw new IllegalStateException(call + \" threw \" + got); } }\n";
    }

    private static String checked(String line) {
        Matcher failure = FAILURE.matcher(line);
        if (failure.matches()) {
            told++;
            String call = failure.group(1);
            return "fails(\"" + call + "\", " + failure.group(2) + ".class, () -> " + call + ");";
        }
        Matcher answer = ANSWER.matcher(line);
        if (!answer.matches()) {
            return line;
        }
        told++;
        String call = answer.group(3);
        if (answer.group(1) == null) {
            return "due(\"" + call + "\", " + call + ", " + answer.group(4) + ");";
        }
        return answer.group(1) + call + "; due(\"" + call + "\", " + answer.group(2) + ", " + answer.group(4) + ");";
    }
}
