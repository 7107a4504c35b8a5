import java.lang.reflect.Method;

/**
 * Promise 58 where an invariant does not hold. No calls lead there, so that variants of the class are compiled,
 * in each of which one of two ways is wrong.
 */
public final class ConsistencyTest {
    private static final String PAIR = "crater 9;crater 9;channel 01 3 9";

    public static void main(String[] args) throws ReflectiveOperationException {
        ways();
        nets();
        arrivals();
        loads();
        counts();
        Check.end();
    }

    private static void due(Class<?> type, boolean want, String... texts) throws ReflectiveOperationException {
        Object office = type.getConstructor().newInstance();
        Method append = type.getMethod("append", char.class);
        for (String text : texts) {
            for (char sign : text.toCharArray()) {
                append.invoke(office, sign);
            }
            type.getMethod("run").invoke(office);
        }
        Object got = type.getMethod("isConsistent").invoke(office);
        Check.due("isConsistent after " + String.join(", ", texts), got, want);
        // The class itself finds nothing wrong there.
        String calls = texts.length == 0 ? "" : "text " + String.join(", text ", texts);
        Check.due("isConsistent after " + calls, Calls.office(calls).isConsistent(), true);
    }

    private static void ways() throws ReflectiveOperationException {
        // From crater 0 to itself alone.
        Class<?> same = Compiled.variant("table[one][one] = 0;", "table[one][one] = one == 0 ? 1 : 0;");
        due(same, true);
        due(same, false, "crater 9");
        due(same, false, "crater 9;crater 9;crater 9");
        // Back through a channel alone.
        Class<?> back = Compiled.variant("table[other][one] = waters.lengths[channel];",
                "table[other][one] = waters.lengths[channel] + 1;");
        due(back, true, "crater 9;crater 9");
        due(back, false, PAIR);
        due(back, false, "crater 9;crater 9;crater 9;crater 9;channel 23 1 1");
        // No way for the table alone.
        Class<?> none = Compiled.variant("if (table[one][via] == NONE || table[via][other] == NONE) {", "if (via >= 0) {");
        due(none, true, PAIR + ";crater 9");
        due(none, false, PAIR + ";crater 9;channel 12 1 0");
    }

    private static void nets() throws ReflectiveOperationException {
        Class<?> more = Compiled.variant("return missing > 0 ? NONE : sum;", "return missing > 0 ? NONE : sum + 1;");
        due(more, false);
        due(more, false, PAIR);
        due(more, true, PAIR + ";crater 9");
        // A net where there is none.
        Class<?> any = Compiled.variant("return missing > 0 ? NONE : sum;", "return sum;");
        due(any, true, PAIR);
        due(any, false, PAIR + ";crater 9");
    }

    private static void arrivals() throws ReflectiveOperationException {
        // In crater 0 alone.
        Class<?> first = Compiled.variant("byHours[crater] = state.presentHour + later;",
                "byHours[crater] = state.presentHour + later + (crater == 0 ? 1 : 0);");
        due(first, true, PAIR);
        due(first, false, "crater 9;ferry 0 1 1");
        due(first, false, PAIR + ";ferry 1 1 1");
        // In the other crater alone.
        Class<?> later = Compiled.variant("int arrival = later + waters.lengths[channel];",
                "int arrival = later + waters.lengths[channel] + 1;");
        due(later, true, "crater 0;crater 0;channel 01 1 0;ferry 0 9 1");
        due(later, false, PAIR + ";ferry 0 1 1");
        // No hour at all for ferry 2.
        Class<?> never = Compiled.variant("arriving[first] = 1 << state.nextCrater(ferry);",
                "arriving[first] = ferry == 2 ? 0 : 1 << state.nextCrater(ferry);");
        due(never, true, PAIR, "ferry 0 1 1;ferry 0 1 1");
        due(never, false, PAIR, "ferry 0 1 1;ferry 0 1 1;ferry 0 1 1");
        due(never, false, PAIR, "ferry 0 1 1;ferry 0 1 1;ferry 0 1 1;sail 2 1");
    }

    private static void loads() throws ReflectiveOperationException {
        // Of ferries that are not at sea: a stranded one counts, one at sea does not.
        Class<?> more = Compiled.variant("return sums[room];", "return sums[room] + 1;");
        due(more, true, PAIR);
        due(more, false, PAIR + ";ferry 0 1 1");
        due(more, false, "crater 0;ferry 0 1 1");
        due(more, true, PAIR + ";ferry 0 1 1;sail 0 1");
        due(more, false, PAIR + ";ferry 0 1 1;sail 0 1", "ferry 1 1 1");
        // Where there are moons to load alone, that is for ferry 2.
        Class<?> moons = Compiled.variant("int taken = sums[used - weights[moon]] + worths[moon];",
                "int taken = sums[used - weights[moon]] + worths[moon] + 1;");
        due(moons, true, PAIR, "ferry 0 1 9;ferry 0 1 9;ferry 1 1 9;moon 10 9 0");
        due(moons, false, PAIR, "ferry 0 1 9;ferry 0 1 9;ferry 1 1 9;moon 10 9 4");
    }

    private static void counts() throws ReflectiveOperationException {
        // For the fare of the first moon, and for that of the last one alone.
        Class<?> fewer = Compiled.variant("less += lesser[node] + sames[node];", "less += lesser[node];");
        due(fewer, true, PAIR + ";moon 01 1 4");
        due(fewer, false, PAIR + ";moon 01 1 4;moon 01 1 1");
        due(fewer, false, PAIR + ";moon 01 1 1;moon 01 1 4");
        // Where two moons have the same fare, and a third one a greater fare.
        Class<?> twice = Compiled.variant("sames[node]++;", "sames[node] += 2;");
        due(twice, true, PAIR, "moon 01 1 4;moon 01 1 1");
        due(twice, true, PAIR, "moon 01 1 1;moon 01 1 1");
        due(twice, false, PAIR, "moon 01 1 1;moon 01 1 1;moon 01 1 4");
    }
}
