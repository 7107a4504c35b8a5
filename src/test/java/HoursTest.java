import java.util.NoSuchElementException;

/** Promises 40 to 49. */
public final class HoursTest {
    private static final Class<IllegalArgumentException> ARGUMENT = IllegalArgumentException.class;
    private static final Class<NoSuchElementException> ELEMENT = NoSuchElementException.class;
    private static final Class<UnsupportedOperationException> REFUSED =
            UnsupportedOperationException.class;

    public static void main(String[] args) {
        pass();
        reason();
        passages();
        strandings();
        coins();
        Check.end();
    }

    private static void pass() {
        MoonFerryOffice x = new MoonFerryOffice();
        Check.fails("40 0", ARGUMENT, () -> x.pass(0));
        Check.fails("40 49", ARGUMENT, () -> x.pass(49));
        Check.fails("40 -1", ARGUMENT, () -> x.pass(-1));
        Check.due("40 1", x.pass(1), 0);
        Check.due("41 1", x.hour(), 1);
        Check.due("40 48", x.pass(48), 0);
        Check.due("41 49", x.hour(), 49);
        x.addCrater(9);
        x.addCrater(9);
        x.addMoon(0, 1, 1, 6);
        x.pass(22);
        Check.due("35 hour 71", x.phaseOf(0), 6);
        x.pass(1);
        Check.due("35 hour 72", x.phaseOf(0), 7);
        x.pass(48);
        Check.due("35 hour 120", x.phaseOf(0), 1);
    }

    private static void reason() {
        MoonFerryOffice x = new MoonFerryOffice();
        x.addCrater(0);
        x.addCrater(0);
        x.addFerry(0, 1, 9);
        Check.fails("42 nothing refused", ELEMENT, x::refusalReason);
        Check.fails("42 sail", REFUSED, () -> x.sail(0, 1));
        Check.due("42 kept", x.refusalReason(), 1);
        x.save();
        x.addMoon(0, 1, 1, 1);
        Check.fails("42 board", REFUSED, () -> x.board(0, 0));
        Check.due("42 kept later", x.refusalReason(), 5);
        x.undo();
        Check.due("42 not undone", x.refusalReason(), 5);
        x.restore();
        Check.due("42 not restored", x.refusalReason(), 5);
        x.pass(1);
        Check.due("42 a success keeps it", x.refusalReason(), 5);
    }

    private static void passages() {
        MoonFerryOffice x = new MoonFerryOffice();
        x.addCrater(9);
        x.addCrater(9);
        x.addCrater(9);
        x.addChannel(0, 1, 1, 9);
        x.addChannel(0, 2, 2, 9);
        for (int i = 0; i < 3; i++) {
            x.addFerry(i == 0 ? 1 : 0, 1, 1);
        }
        x.sail(1, 2);
        x.sail(2, 1);
        Check.due("40 one", x.pass(1), 1);
        x.sail(0, 0);
        Check.due("40 two at once", x.pass(1), 2);
        Check.due("43 three", x.passageCount(), 3);
        int[] ferries = {1, 0, 2};
        int[] craters = {2, 0, 1};
        int[] hours = {2, 2, 1};
        for (int i = 0; i < 3; i++) {
            Check.due("44 " + i, x.passageFerry(i), ferries[i]);
            Check.due("45 " + i, x.passageCrater(i), craters[i]);
            Check.due("46 " + i, x.passageHour(i), hours[i]);
        }
        noPassage(x, -1);
        noPassage(x, 3);
        noPassage(x, Integer.MAX_VALUE);
        noPassage(x, Integer.MIN_VALUE);
        for (int i = 0; i < 10; i++) {
            x.sail(0, i % 2 == 0 ? 1 : 0);
            x.pass(2);
        }
        Check.due("43 thirteen", x.passageCount(), 13);
        for (int i = 0; i < 10; i++) {
            Check.due("44 ten " + i, x.passageFerry(i), 0);
            Check.due("45 ten " + i, x.passageCrater(i), i % 2);
            Check.due("46 ten " + i, x.passageHour(i), 21 - 2 * i);
        }
        noPassage(x, 10);
        x.undo();
        Check.due("43 undone", x.passageCount(), 12);
        Check.due("46 undone", x.passageHour(0), 19);
        Check.due("44 undone", x.passageFerry(9), 1);
    }

    private static void noPassage(MoonFerryOffice x, int recency) {
        Check.fails("44 " + recency, ELEMENT, () -> x.passageFerry(recency));
        Check.fails("45 " + recency, ELEMENT, () -> x.passageCrater(recency));
        Check.fails("46 " + recency, ELEMENT, () -> x.passageHour(recency));
    }

    private static void strandings() {
        MoonFerryOffice x = new MoonFerryOffice();
        x.addCrater(9);
        x.addCrater(0);
        x.addChannel(0, 1, 2, 9);
        x.addFerry(0, 3, 1);
        x.addFerry(0, 2, 1);
        x.sail(0, 1);
        x.sail(1, 1);
        Check.due("40 two", x.pass(5), 2);
        Check.due("47 one of two", x.strandingCount(), 1);
        x.pass(6);
        Check.due("47 ebb is no passage", x.strandingCount(), 1);
        x.undo();
        x.undo();
        Check.due("47 undone", x.strandingCount(), 0);
    }

    private static void coins() {
        MoonFerryOffice x = new MoonFerryOffice();
        x.addCrater(0);
        x.addCrater(0);
        x.addChannel(0, 1, 9, 9);
        x.addFerry(0, 1, 99);
        x.addMoon(0, 1, 1, 4);
        x.addMoon(0, 1, 1, 4);
        x.pass(1);
        x.loadBest(0);
        x.pass(11);
        Check.due("30 rescue", x.rescue(0), 2);
        Check.due("48 below 0", x.coins(), -10);
        x.pass(1);
        x.loadBest(0);
        x.sail(0, 1);
        x.pass(9);
        Check.due("26 land", x.land(0), 45);
        Check.due("48 both", x.coins(), 35);
        Check.due("49 fares alone", x.fareTotal(), 45);
        x.undo();
        Check.due("48 undone", x.coins(), -10);
        Check.due("49 undone", x.fareTotal(), 0);
    }
}
