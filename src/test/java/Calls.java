import java.lang.reflect.InvocationTargetException;
import java.lang.reflect.Method;
import java.lang.reflect.Modifier;
import java.util.Map;

/**
 * Calls written shortly, as in "crater 9, crater 9, channel 0 1 3 9, pass 6, wayHours 0 1". "type" appends
 * the text behind it, and "text" runs it too. A call behind "!" must fail, any other one must not.
 */
final class Calls {
    private static final Map<String, String> NAMES = Map.of("crater", "addCrater", "channel", "addChannel",
            "ferry", "addFerry", "moon", "addMoon", "load", "loadBest");

    private Calls() {
    }

    static MoonFerryOffice office(String calls) {
        MoonFerryOffice x = new MoonFerryOffice();
        make(x, calls);
        return x;
    }

    static void make(MoonFerryOffice x, String calls) {
        for (String call : calls.isEmpty() ? new String[0] : calls.split(", ")) {
            boolean mustFail = call.startsWith("!");
            Object answer = answer(x, mustFail ? call.substring(1) : call);
            if (answer instanceof Class != mustFail) {
                throw new IllegalStateException(call + " answers " + answer);
            }
        }
    }

    /** What a call answers, or the class of the exception that it throws. */
    static Object answer(MoonFerryOffice x, String call) {
        String[] words = call.split(" ", 2);
        String rest = words.length > 1 ? words[1] : "";
        if (words[0].equals("type")) {
            return type(x, rest);
        }
        if (words[0].equals("text")) {
            type(x, rest);
            return answer(x, "run");
        }
        return answer(x, NAMES.getOrDefault(words[0], words[0]), rest.isEmpty() ? new String[0] : rest.split(" "));
    }

    private static Object type(MoonFerryOffice x, String text) {
        Object length = 0;
        for (int i = 0; i < text.length(); i++) {
            length = x.append(text.charAt(i));
        }
        return length;
    }

    private static Object answer(MoonFerryOffice x, String name, String[] numbers) {
        for (Method method : MoonFerryOffice.class.getDeclaredMethods()) {
            if (Modifier.isPublic(method.getModifiers()) && method.getName().equals(name)) {
                return answer(x, method, numbers);
            }
        }
        throw new IllegalStateException("no method " + name);
    }

    private static Object answer(MoonFerryOffice x, Method method, String[] numbers) {
        Object[] arguments = new Object[numbers.length];
        for (int i = 0; i < numbers.length; i++) {
            int number = Integer.parseInt(numbers[i]);
            arguments[i] = method.getName().equals("append") ? (Object) (char) number : (Object) number;
        }
        try {
            return method.invoke(x, arguments);
        } catch (InvocationTargetException e) {
            return e.getCause().getClass();
        } catch (IllegalAccessException e) {
            throw new IllegalStateException(e);
        }
    }
}
