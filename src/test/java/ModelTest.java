import java.lang.reflect.InvocationTargetException;
import java.lang.reflect.Method;
import java.lang.reflect.Modifier;
import java.util.ArrayList;
import java.util.Arrays;
import java.util.Comparator;
import java.util.List;
import java.util.Random;

/** Makes the same calls on the class and on Model, and compares each answer. */
public final class ModelTest {
    private static final String[] CHANGES = {"addCrater", "addChannel", "addFerry", "addMoon", "addMoon",
        "sail", "sail", "sail", "board", "board", "land", "land", "loadBest", "rescue", "pass", "pass", "pass"};
    private static final String[] RARE = {"removeChannel", "undo", "undo", "save", "restore"};
    private static final String[] WORDS = {"crater D", "channel CC D D", "ferry C N N", "moon CC N D",
        "sail F C", "sail F C", "board F M", "board F M", "land M", "load F", "rescue F", "pass D", "pass N"};

    private final Random random;
    private final MoonFerryOffice office = new MoonFerryOffice();
    private final Model model = new Model();
    private final List<String> calls = new ArrayList<>();
    private final int craterLimit;
    private final int rareness;

    private ModelTest(long seed) {
        random = new Random(seed);
        craterLimit = 2 + random.nextInt(5);
        rareness = 1 << random.nextInt(7);
    }

    public static void main(String[] args) throws ReflectiveOperationException {
        int runs = args.length > 0 ? Integer.parseInt(args[0]) : 300;
        for (int seed = 0; seed < runs; seed++) {
            new ModelTest(seed).go(seed);
        }
        Check.end();
    }

    private static Method[] queries() {
        return Arrays.stream(MoonFerryOffice.class.getDeclaredMethods())
                .filter(m -> Modifier.isPublic(m.getModifiers()))
                .filter(m -> !Arrays.asList(CHANGES).contains(m.getName()))
                .filter(m -> !Arrays.asList(RARE).contains(m.getName()))
                .filter(m -> !m.getName().equals("append") && !m.getName().equals("run"))
                .sorted(Comparator.comparing(Method::getName)).toArray(Method[]::new);
    }

    private static Method named(String name) {
        return Arrays.stream(MoonFerryOffice.class.getDeclaredMethods())
                .filter(m -> Modifier.isPublic(m.getModifiers()) && m.getName().equals(name))
                .findAny().orElseThrow();
    }

    private void go(long seed) throws ReflectiveOperationException {
        Method[] queries = queries();
        // A text of up to 60 characters and its run end within the 512 calls that an object is used for.
        while (calls.size() < 450) {
            int kind = random.nextInt(20);
            boolean good = true;
            if (kind < 7) {
                good = both(named(CHANGES[random.nextInt(CHANGES.length)]));
            } else if (kind < 8) {
                good = random.nextInt(rareness) > 0 || both(named(RARE[random.nextInt(RARE.length)]));
            } else if (kind < 9) {
                good = random.nextInt(6) > 0 || both(text());
            } else {
                good = both(queries[random.nextInt(queries.length)]);
            }
            if (!good) {
                Check.due("seed " + seed, calls.get(calls.size() - 1), "the answer of the model; after " + calls);
                return;
            }
        }
    }

    private boolean both(Method method) throws ReflectiveOperationException {
        return both(method, arguments(method));
    }

    private boolean both(Method method, Object... arguments) throws ReflectiveOperationException {
        Object got = answer(office, method, arguments);
        Method twin = Model.class.getDeclaredMethod(method.getName(), method.getParameterTypes());
        Object due = answer(model, twin, arguments);
        calls.add(method.getName() + Arrays.toString(arguments) + "=" + got + (got.equals(due) ? "" : " not " + due));
        return got.equals(due);
    }

    private static Object answer(Object target, Method method, Object[] arguments) throws ReflectiveOperationException {
        try {
            return method.invoke(target, arguments);
        } catch (InvocationTargetException e) {
            return e.getCause().getClass();
        }
    }

    private boolean both(String text) throws ReflectiveOperationException {
        Method append = named("append");
        boolean good = true;
        for (int i = 0; i < text.length(); i++) {
            good &= both(append, text.charAt(i));
        }
        return good && both(named("run"));
    }

    private String text() {
        StringBuilder text = new StringBuilder();
        int commands = random.nextInt(6);
        for (int i = 0; i <= commands; i++) {
            String word = WORDS[random.nextInt(WORDS.length)];
            for (char sign : word.toCharArray()) {
                text.append(filled(sign));
            }
            text.append(i < commands ? ";" : "");
        }
        if (random.nextInt(3) == 0) {
            int at = random.nextInt(text.length());
            text.setCharAt(at, "0123456789 ;abcdefhlmoprst".charAt(random.nextInt(26)));
        }
        if (random.nextInt(6) == 0) {
            text.setLength(random.nextInt(text.length() + 1));
        }
        return text.toString();
    }

    private String filled(char sign) {
        switch (sign) {
            case 'D':
                return "" + random.nextInt(10);
            case 'N':
                return "" + random.nextInt(random.nextBoolean() ? 100 : 13);
            case 'C':
                return "" + random.nextInt(craterLimit);
            case 'F':
                return "" + random.nextInt(3);
            case 'M':
                return "" + someMoon();
            default:
                return "" + sign;
        }
    }

    private int someMoon() {
        int count = model.moonCount();
        return count == 0 ? 0 : model.moonAt(random.nextInt(count));
    }

    private Object[] arguments(Method method) {
        Object[] arguments = new Object[method.getParameterCount()];
        for (int i = 0; i < arguments.length; i++) {
            arguments[i] = argument(method.getName(), i);
        }
        return arguments;
    }

    private int around(int limit) {
        return random.nextInt(12) > 0 ? random.nextInt(limit) : random.nextInt(limit + 2) - 1;
    }

    private int argument(String method, int index) {
        if (random.nextInt(150) == 0) {
            return random.nextInt();
        }
        switch (method + index) {
            case "addChannel2":
                return 1 + around(9);
            case "addChannel3":
            case "addCrater0":
                return around(10);
            case "addFerry1":
                return 1 + around(12);
            case "addFerry2":
                return 1 + around(99);
            case "addMoon2":
                return 1 + around(random.nextBoolean() ? 40 : 12);
            case "addMoon3":
                return around(8);
            case "pass0":
                return 1 + around(random.nextInt(4) == 0 ? 48 : 6);
            case "tide0":
                return around(10000);
            case "countBelow0":
            case "countBelowByAsking0":
                return around(80);
            case "removeChannel0":
            case "moonAt0":
            case "moonAtRank0":
            case "passageFerry0":
            case "passageCrater0":
            case "passageHour0":
            case "lineAt0":
                return around(11);
            case "board1":
            case "land0":
            case "ferryOf0":
            case "shoreOf0":
            case "phaseOf0":
            case "fareOf0":
                return random.nextInt(8) > 0 ? someMoon() : around(40);
            case "addFerry0":
            case "sail1":
            case "earliestArrival1":
            case "earliestArrivalByHours1":
                return around(craterLimit);
            default:
                return craterOrFerry(method);
        }
    }

    private int craterOrFerry(String method) {
        switch (method) {
            case "addChannel":
            case "addMoon":
            case "depthOf":
            case "channelBetween":
            case "wayHours":
            case "wayHoursByTable":
                return around(craterLimit);
            default:
                return around(3);
        }
    }
}
