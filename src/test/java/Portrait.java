import java.lang.reflect.InvocationTargetException;
import java.lang.reflect.Method;
import java.util.ArrayList;
import java.util.Arrays;
import java.util.Comparator;
import java.util.List;

/** What an office answers to every question about the things that changes can change. */
final class Portrait {
    private static final List<String> NOT_ASKED = Arrays.asList("addCrater", "addChannel", "removeChannel",
            "addFerry", "sail", "addMoon", "board", "land", "loadBest", "rescue", "pass", "append", "run",
            "errorPosition", "failedCommand", "refusalReason", "lineAt", "describeFerry", "undo", "save",
            "restore", "tide");

    private Portrait() {
    }

    static List<String> of(MoonFerryOffice x) {
        List<String> answers = new ArrayList<>();
        Method[] methods = MoonFerryOffice.class.getDeclaredMethods();
        Arrays.sort(methods, Comparator.comparing(Method::getName));
        for (Method method : methods) {
            boolean open = java.lang.reflect.Modifier.isPublic(method.getModifiers());
            if (open && !NOT_ASKED.contains(method.getName())) {
                ask(x, method, answers);
            }
        }
        return answers;
    }

    private static void ask(MoonFerryOffice x, Method method, List<String> answers) {
        int count = method.getParameterCount();
        for (int one = 0; one < (count > 0 ? 11 : 1); one++) {
            for (int other = 0; other < (count > 1 ? 6 : 1); other++) {
                Object[] arguments = count == 0 ? new Object[0] : new Object[] {one, other};
                arguments = Arrays.copyOf(arguments, count);
                answers.add(method.getName() + Arrays.toString(arguments) + answer(x, method, arguments));
            }
        }
    }

    private static Object answer(MoonFerryOffice x, Method method, Object[] arguments) {
        try {
            return method.invoke(x, arguments);
        } catch (InvocationTargetException e) {
            return e.getCause().getClass();
        } catch (IllegalAccessException e) {
            throw new AssertionError(e);
        }
    }
}
