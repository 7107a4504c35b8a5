import java.util.NoSuchElementException;

/** Promises 14 to 23. */
public final class FerriesTest {
    private static final Class<IndexOutOfBoundsException> INDEX = IndexOutOfBoundsException.class;
    private static final Class<IllegalArgumentException> ARGUMENT = IllegalArgumentException.class;
    private static final Class<IllegalStateException> STATE = IllegalStateException.class;
    private static final Class<NoSuchElementException> ELEMENT = NoSuchElementException.class;
    private static final Class<UnsupportedOperationException> REFUSED =
            UnsupportedOperationException.class;

    public static void main(String[] args) {
        addFerry();
        sail();
        readers();
        earliest();
        longest();
        Check.end();
    }

    private static void addFerry() {
        MoonFerryOffice x = new MoonFerryOffice();
        Check.fails("14 no crater", INDEX, () -> x.addFerry(0, 0, 0));
        x.addCrater(5);
        Check.fails("14 crater -1", INDEX, () -> x.addFerry(-1, 1, 1));
        Check.fails("14 draught 0", ARGUMENT, () -> x.addFerry(0, 0, 1));
        Check.fails("14 draught 13", ARGUMENT, () -> x.addFerry(0, 13, 1));
        Check.fails("14 capacity 0", ARGUMENT, () -> x.addFerry(0, 1, 0));
        Check.fails("14 capacity 100", ARGUMENT, () -> x.addFerry(0, 1, 100));
        Check.due("14 first", x.addFerry(0, 1, 99), 0);
        Check.due("14 second", x.addFerry(0, 12, 1), 1);
        Check.due("14 third", x.addFerry(0, 5, 50), 2);
        Check.fails("14 fourth", STATE, () -> x.addFerry(0, 1, 1));
        Check.fails("14 fourth, draught 0", ARGUMENT, () -> x.addFerry(0, 0, 1));
        Check.fails("14 fourth, crater 1", INDEX, () -> x.addFerry(1, 0, 1));
        Check.due("14 where", x.craterOf(2), 0);
    }

    private static void sail() {
        MoonFerryOffice x = new MoonFerryOffice();
        x.addCrater(2);
        x.addCrater(9);
        x.addCrater(0);
        x.addChannel(0, 1, 4, 1);
        x.addFerry(0, 3, 10);
        Check.fails("15 ferry 1", INDEX, () -> x.sail(1, 0));
        Check.fails("15 ferry -1", INDEX, () -> x.sail(-1, 0));
        Check.fails("15 crater 3", INDEX, () -> x.sail(0, 3));
        Check.fails("15 crater -1", INDEX, () -> x.sail(0, -1));
        Check.fails("42 nothing kept", ELEMENT, x::refusalReason);
        Check.fails("15 no channel, stranded", REFUSED, () -> x.sail(0, 2));
        Check.due("42 no channel", x.refusalReason(), 1);
        Check.fails("15 stranded, shut", REFUSED, () -> x.sail(0, 1));
        Check.due("42 stranded", x.refusalReason(), 2);
        Check.fails("15 same crater", REFUSED, () -> x.sail(0, 0));
        Check.due("42 same crater", x.refusalReason(), 1);
        x.pass(1);
        Check.fails("15 shut", REFUSED, () -> x.sail(0, 1));
        Check.due("42 shut", x.refusalReason(), 3);
        x.pass(1);
        Check.due("15 sails", x.sail(0, 1), 6);
        Check.fails("15 at sea", STATE, () -> x.sail(0, 1));
        Check.fails("15 at sea, crater 9", INDEX, () -> x.sail(0, 9));
        Check.due("15 pass 3", x.pass(3), 0);
        Check.due("15 pass 1", x.pass(1), 1);
        Check.due("15 back", x.sail(0, 0), 10);
    }

    private static void readers() {
        MoonFerryOffice x = new MoonFerryOffice();
        x.addCrater(3);
        x.addCrater(0);
        x.addChannel(1, 0, 5, 9);
        x.addFerry(0, 3, 10);
        x.addFerry(1, 1, 20);
        Check.due("16 ashore", x.isAtSea(0), false);
        Check.due("17 ashore", x.craterOf(0), 0);
        Check.fails("18 ashore", STATE, () -> x.targetOf(0));
        Check.due("19 ashore", x.hoursLeft(0), 0);
        Check.due("20 depth as draught", x.isStranded(0), false);
        Check.due("20 stranded", x.isStranded(1), true);
        x.sail(0, 1);
        Check.due("16 at sea", x.isAtSea(0), true);
        Check.fails("17 at sea", STATE, () -> x.craterOf(0));
        Check.due("18 at sea", x.targetOf(0), 1);
        Check.due("19 at sea", x.hoursLeft(0), 5);
        Check.due("20 at sea", x.isStranded(0), false);
        x.pass(1);
        Check.due("19 an hour later", x.hoursLeft(0), 4);
        Check.due("20 by the tide", x.isStranded(1), false);
        x.pass(4);
        Check.due("17 arrived", x.craterOf(0), 1);
        Check.due("16 arrived", x.isAtSea(0), false);
        x.pass(4);
        Check.due("20 tide 3", x.isStranded(0), false);
        x.pass(1);
        Check.due("20 tide 2", x.isStranded(0), true);
        x.pass(1);
        x.addMoon(1, 0, 7, 1);
        x.addMoon(1, 0, 8, 1);
        x.board(1, 0);
        x.board(1, 1);
        Check.due("21 aboard", x.loadOf(1), 15);
        Check.due("21 other", x.loadOf(0), 0);
        for (int ferry : new int[] {-1, 2, Integer.MAX_VALUE}) {
            Check.fails("16 " + ferry, INDEX, () -> x.isAtSea(ferry));
            Check.fails("17 " + ferry, INDEX, () -> x.craterOf(ferry));
            Check.fails("18 " + ferry, INDEX, () -> x.targetOf(ferry));
            Check.fails("19 " + ferry, INDEX, () -> x.hoursLeft(ferry));
            Check.fails("20 " + ferry, INDEX, () -> x.isStranded(ferry));
            Check.fails("21 " + ferry, INDEX, () -> x.loadOf(ferry));
            Check.fails("22 " + ferry, INDEX, () -> x.earliestArrival(ferry, 0));
            Check.fails("23 " + ferry, INDEX, () -> x.earliestArrivalByHours(ferry, 0));
        }
        for (int crater : new int[] {-1, 2}) {
            Check.fails("22 crater " + crater, INDEX, () -> x.earliestArrival(0, crater));
            Check.fails("23 crater " + crater, INDEX, () -> x.earliestArrivalByHours(0, crater));
        }
    }

    private static void bothEarliest(MoonFerryOffice x, int ferry, int crater, int hour) {
        Check.due("22 " + ferry + " in " + crater, x.earliestArrival(ferry, crater), hour);
        Check.due("23 " + ferry + " in " + crater, x.earliestArrivalByHours(ferry, crater), hour);
    }

    private static void bothNever(MoonFerryOffice x, int ferry, int crater) {
        Check.fails("22 never", ELEMENT, () -> x.earliestArrival(ferry, crater));
        Check.fails("23 never", ELEMENT, () -> x.earliestArrivalByHours(ferry, crater));
    }

    private static void earliest() {
        MoonFerryOffice x = new MoonFerryOffice();
        x.addCrater(2);
        x.addCrater(9);
        x.addCrater(1);
        x.addCrater(9);
        x.addChannel(0, 1, 4, 1);
        x.addChannel(1, 2, 9, 0);
        x.addFerry(0, 5, 10);
        x.addFerry(0, 8, 10);
        bothEarliest(x, 0, 0, 0);
        bothEarliest(x, 0, 1, 8);
        bothEarliest(x, 0, 2, 26);
        bothNever(x, 0, 3);
        bothNever(x, 1, 1);
        bothEarliest(x, 1, 0, 0);
        x.pass(4);
        Check.due("22 sail", x.sail(0, 1), 8);
        bothEarliest(x, 0, 1, 8);
        bothEarliest(x, 0, 2, 26);
        bothEarliest(x, 0, 0, 12);
        bothEarliest(x, 1, 0, 4);
    }

    // Each passage can begin at high tide only: in the hours 6, 18, 30, 42, 54, and so on.
    private static void longest() {
        MoonFerryOffice x = new MoonFerryOffice();
        for (int i = 0; i < 6; i++) {
            x.addCrater(i % 2 == 0 ? 0 : 9);
        }
        for (int i = 0; i < 5; i++) {
            x.addChannel(i, i + 1, 9, i % 2 == 0 ? 9 : 0);
        }
        x.addFerry(0, 6, 9);
        bothEarliest(x, 0, 1, 15);
        x.pass(6);
        bothEarliest(x, 0, 1, 15);
        x.pass(1);
        bothEarliest(x, 0, 1, 27);
        bothEarliest(x, 0, 5, 75);
        x.pass(48);
        bothEarliest(x, 0, 5, 123);
    }
}
