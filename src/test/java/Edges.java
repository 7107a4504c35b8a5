import java.util.ArrayList;
import java.util.LinkedHashMap;
import java.util.List;
import java.util.Map;
import java.util.NoSuchElementException;

/** Tests that belong to sentences of the document; what fails is told with its sentence. */
abstract class Edges {
    static final Class<IndexOutOfBoundsException> INDEX = IndexOutOfBoundsException.class;
    static final Class<IllegalArgumentException> ARGUMENT = IllegalArgumentException.class;
    static final Class<IllegalStateException> STATE = IllegalStateException.class;
    static final Class<NoSuchElementException> ELEMENT = NoSuchElementException.class;
    static final Class<UnsupportedOperationException> REFUSED = UnsupportedOperationException.class;
    static final Class<ArithmeticException> ARITHMETIC = ArithmeticException.class;

    static final int MIN = Integer.MIN_VALUE;
    static final int MAX = Integer.MAX_VALUE;

    private static final Map<String, List<String>> TESTED = new LinkedHashMap<>();
    private static String section = "";
    private static String sentence = "";

    static void section(String title) {
        section = title;
        TESTED.put(title, new ArrayList<>());
    }

    static void says(String words, Runnable test) {
        sentence = words;
        TESTED.get(section).add(words);
        try {
            test.run();
        } catch (RuntimeException e) {
            due(e.toString(), "no exception");
        }
    }

    static void due(long got, long want) {
        due((Object) got, (Object) want);
    }

    static void due(double got, double want) {
        due((Object) got, (Object) want);
    }

    static void due(boolean got, boolean want) {
        due((Object) got, (Object) want);
    }

    static void due(Object got, Object want) {
        Check.due(section + ": " + sentence + ":", got, want);
    }

    static void fails(Class<? extends RuntimeException> want, Runnable call) {
        Check.fails(section + ": " + sentence + ":", want, call);
    }

    static MoonFerryOffice office(String calls) {
        return Calls.office(calls);
    }

    /** Every sentence of the sections that were tested has its test, and every test its sentence. */
    static void end(int sections) {
        Map<String, List<String>> document = Document.sections();
        Check.due("sections", TESTED.size(), sections);
        TESTED.forEach((title, tested) -> {
            List<String> said = document.getOrDefault(title, List.of());
            said.forEach(words -> Check.due(title + ": has a test: " + words, tested.contains(words), true));
            tested.forEach(words -> Check.due(title + ": is said: " + words, said.contains(words), true));
        });
        Check.end();
    }
}
