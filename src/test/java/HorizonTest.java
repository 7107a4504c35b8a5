import java.lang.reflect.InvocationTargetException;
import java.lang.reflect.Method;
import java.util.NoSuchElementException;

/**
 * The 99 hours of promises 22 and 23. With passages of at most 9 hours no arrival is so late, so that a variant of
 * the class is asked in which a passage can take longer.
 */
public final class HorizonTest {
    private static final String[] BOTH = {"earliestArrival", "earliestArrivalByHours"};

    private final Object office;

    private HorizonTest(Class<?> type) throws ReflectiveOperationException {
        office = type.getConstructor().newInstance();
    }

    public static void main(String[] args) throws ReflectiveOperationException {
        Class<?> slow = Compiled.variant("private static final int MAX_CHANNEL_HOURS = 9;",
                "private static final int MAX_CHANNEL_HOURS = 120;");
        onePassage(new HorizonTest(slow));
        severalPassages(new HorizonTest(slow));
        waiting(new HorizonTest(slow));
        atSea(new HorizonTest(slow));
        Check.end();
    }

    private Object call(String name, int... numbers) throws ReflectiveOperationException {
        for (Method method : office.getClass().getMethods()) {
            if (method.getName().equals(name) && method.getParameterCount() == numbers.length) {
                Object[] arguments = new Object[numbers.length];
                for (int i = 0; i < numbers.length; i++) {
                    arguments[i] = numbers[i];
                }
                return answer(method, arguments);
            }
        }
        throw new IllegalStateException("no method " + name);
    }

    private Object answer(Method method, Object[] arguments) throws IllegalAccessException {
        try {
            return method.invoke(office, arguments);
        } catch (InvocationTargetException e) {
            return e.getCause().getClass();
        }
    }

    private void craters(int count) throws ReflectiveOperationException {
        for (int crater = 0; crater < count; crater++) {
            Check.due("addCrater", call("addCrater", 9), (Object) crater);
        }
    }

    private void due(int crater, Object want) throws ReflectiveOperationException {
        for (String name : BOTH) {
            Check.due(name + "(0, " + crater + ") in hour " + call("hour"), call(name, 0, crater), want);
        }
    }

    private static void onePassage(HorizonTest x) throws ReflectiveOperationException {
        x.craters(4);
        x.call("addChannel", 0, 1, 98, 9);
        x.call("addChannel", 0, 2, 99, 9);
        x.call("addChannel", 0, 3, 100, 9);
        x.call("addFerry", 0, 1, 1);
        for (int hour = 0; hour <= 48; hour += 24) {
            x.due(0, hour);
            x.due(1, hour + 98);
            x.due(2, hour + 99);
            x.due(3, NoSuchElementException.class);
            x.call("pass", 24);
        }
    }

    private static void severalPassages(HorizonTest x) throws ReflectiveOperationException {
        x.craters(5);
        x.call("addChannel", 0, 1, 50, 9);
        x.call("addChannel", 1, 2, 49, 9);
        x.call("addChannel", 1, 3, 50, 9);
        x.call("addChannel", 2, 4, 1, 9);
        x.call("addFerry", 0, 1, 1);
        x.due(2, 99);
        x.due(3, NoSuchElementException.class);
        x.due(4, NoSuchElementException.class);
    }

    // The sill lets the ferry through in the hours 6, 18 and so on.
    private static void waiting(HorizonTest x) throws ReflectiveOperationException {
        x.craters(3);
        x.call("addChannel", 0, 1, 93, 3);
        x.call("addChannel", 0, 2, 94, 3);
        x.call("addFerry", 0, 9, 1);
        x.due(1, 99);
        x.due(2, NoSuchElementException.class);
        x.call("pass", 1);
        x.due(1, 99);
        x.due(2, 100);
        x.call("pass", 6);
        x.due(1, NoSuchElementException.class);
    }

    private static void atSea(HorizonTest x) throws ReflectiveOperationException {
        x.craters(4);
        x.call("addChannel", 0, 1, 60, 9);
        x.call("addChannel", 1, 2, 40, 9);
        x.call("addChannel", 1, 3, 41, 9);
        x.call("addFerry", 0, 1, 1);
        x.call("sail", 0, 1);
        x.due(2, NoSuchElementException.class);
        x.call("pass", 1);
        x.due(1, 60);
        x.due(2, 100);
        x.due(3, NoSuchElementException.class);
        x.call("pass", 1);
        x.due(3, 101);
    }
}
