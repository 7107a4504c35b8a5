import java.util.NoSuchElementException;

/** Promises 24 to 39. */
public final class MoonsTest {
    private static final Class<IndexOutOfBoundsException> INDEX = IndexOutOfBoundsException.class;
    private static final Class<IllegalArgumentException> ARGUMENT = IllegalArgumentException.class;
    private static final Class<IllegalStateException> STATE = IllegalStateException.class;
    private static final Class<NoSuchElementException> ELEMENT = NoSuchElementException.class;
    private static final Class<UnsupportedOperationException> REFUSED =
            UnsupportedOperationException.class;

    public static void main(String[] args) {
        addMoon();
        board();
        land();
        bestLoads();
        equalLoads();
        strandedLoads();
        rescue();
        readers();
        ranks();
        fullOffice();
        leaving();
        Check.end();
    }

    /** Two deep craters, a shallow one, and a channel of 3 hours between the first two. */
    private static MoonFerryOffice office() {
        MoonFerryOffice x = new MoonFerryOffice();
        x.addCrater(9);
        x.addCrater(9);
        x.addCrater(0);
        x.addChannel(0, 1, 3, 9);
        return x;
    }

    private static void addMoon() {
        MoonFerryOffice x = office();
        Check.fails("24 crater 3", INDEX, () -> x.addMoon(3, 0, 0, 0));
        Check.fails("24 crater -1", INDEX, () -> x.addMoon(-1, 0, 1, 0));
        Check.fails("24 destination 3", INDEX, () -> x.addMoon(0, 3, 1, 0));
        Check.fails("24 destination -1", INDEX, () -> x.addMoon(0, -1, 1, 0));
        Check.fails("24 same", ARGUMENT, () -> x.addMoon(1, 1, 1, 0));
        Check.fails("24 weight 0", ARGUMENT, () -> x.addMoon(0, 1, 0, 0));
        Check.fails("24 weight 41", ARGUMENT, () -> x.addMoon(0, 1, 41, 0));
        Check.fails("24 phase -1", ARGUMENT, () -> x.addMoon(0, 1, 1, -1));
        Check.fails("24 phase 8", ARGUMENT, () -> x.addMoon(0, 1, 1, 8));
        for (int i = 0; i < 10; i++) {
            Check.due("24 moon " + i, x.addMoon(0, 1 + i % 2, i == 0 ? 40 : 1, i % 8), i);
        }
        Check.fails("24 eleventh", STATE, () -> x.addMoon(0, 1, 1, 1));
        Check.fails("24 eleventh, weight 41", ARGUMENT, () -> x.addMoon(0, 1, 41, 1));
        Check.fails("24 eleventh, crater 3", INDEX, () -> x.addMoon(0, 3, 41, 1));
        Check.due("31 ten", x.moonCount(), 10);
    }

    private static void board() {
        MoonFerryOffice x = office();
        x.addFerry(0, 10, 30);
        x.addFerry(0, 9, 30);
        x.addMoon(0, 1, 20, 1);
        x.addMoon(0, 1, 11, 2);
        x.addMoon(1, 0, 5, 0);
        x.addMoon(0, 1, 40, 0);
        x.addMoon(0, 1, 10, 0);
        Check.fails("25 ferry 2, moon 9", INDEX, () -> x.board(2, 9));
        Check.fails("25 ferry -1", INDEX, () -> x.board(-1, 0));
        Check.fails("25 moon 5", ELEMENT, () -> x.board(0, 5));
        Check.fails("25 moon -1", ELEMENT, () -> x.board(0, -1));
        Check.fails("25 elsewhere, stranded", REFUSED, () -> x.board(0, 2));
        Check.due("42 elsewhere", x.refusalReason(), 4);
        Check.fails("25 stranded, heavy", REFUSED, () -> x.board(0, 3));
        Check.due("42 stranded", x.refusalReason(), 5);
        Check.due("25 first", x.board(1, 0), 20);
        Check.fails("25 heavy", REFUSED, () -> x.board(1, 1));
        Check.due("42 heavy", x.refusalReason(), 6);
        Check.fails("25 heavy, new", REFUSED, () -> x.board(1, 3));
        Check.due("42 heavy, new", x.refusalReason(), 6);
        Check.fails("25 new", REFUSED, () -> x.board(1, 4));
        Check.due("42 new", x.refusalReason(), 7);
        Check.fails("25 aboard", STATE, () -> x.board(1, 0));
        Check.fails("25 aboard, other ferry", STATE, () -> x.board(0, 0));
        x.sail(1, 1);
        Check.fails("25 at sea", REFUSED, () -> x.board(1, 4));
        Check.due("42 at sea", x.refusalReason(), 4);
        x.pass(24);
        Check.due("25 phase 1 now", x.board(1, 2), 25);
        Check.due("33 moon 2", x.ferryOf(2), 1);
    }

    private static void land() {
        MoonFerryOffice x = office();
        x.addFerry(0, 9, 30);
        x.addFerry(0, 9, 30);
        x.addMoon(0, 1, 20, 4);
        x.addMoon(0, 2, 10, 5);
        Check.fails("26 moon 2", ELEMENT, () -> x.land(2));
        Check.fails("26 moon -1", ELEMENT, () -> x.land(-1));
        Check.fails("26 waits", STATE, () -> x.land(0));
        x.board(0, 0);
        x.board(0, 1);
        Check.due("26 where it was", x.land(1), 0);
        Check.due("34 where it was", x.shoreOf(1), 0);
        x.board(0, 1);
        x.sail(0, 1);
        Check.fails("26 at sea", REFUSED, () -> x.land(0));
        Check.fails("42 nothing kept", ELEMENT, x::refusalReason);
        x.pass(3);
        Check.due("26 elsewhere", x.land(1), 0);
        Check.due("34 elsewhere", x.shoreOf(1), 1);
        Check.due("36 fare", x.fareOf(0), 15);
        Check.due("26 destination", x.land(0), 15);
        Check.due("48 coins", x.coins(), 15);
        Check.due("49 fares", x.fareTotal(), 15);
        Check.fails("26 gone", ELEMENT, () -> x.land(0));
        Check.due("31 one", x.moonCount(), 1);
        Check.due("32 the other", x.moonAt(0), 1);
        Check.due("24 numbers go on", x.addMoon(0, 1, 1, 1), 2);
        landStranded();
    }

    private static void landStranded() {
        MoonFerryOffice x = new MoonFerryOffice();
        x.addCrater(0);
        x.addCrater(0);
        x.addFerry(0, 1, 30);
        x.addMoon(0, 1, 20, 4);
        x.pass(1);
        x.board(0, 0);
        x.pass(11);
        Check.fails("26 stranded", REFUSED, () -> x.land(0));
        Check.fails("42 nothing kept", ELEMENT, x::refusalReason);
        x.pass(1);
        Check.due("26 afloat", x.land(0), 0);
    }

    private static void bothLoads(String call, MoonFerryOffice x, int ferry, int sum) {
        Check.due("28 " + call, x.bestLoad(ferry), sum);
        Check.due("29 " + call, x.bestLoadByTable(ferry), sum);
    }

    private static void bestLoads() {
        MoonFerryOffice x = office();
        x.addFerry(0, 9, 50);
        bothLoads("no moons", x, 0, 0);
        Check.due("27 no moons", x.loadBest(0), 0);
        Check.due("59 a change", x.undo(), 5);
        x.addMoon(0, 1, 40, 4);
        x.addMoon(0, 1, 25, 2);
        x.addMoon(0, 1, 25, 6);
        x.addMoon(0, 1, 1, 0);
        x.addMoon(1, 0, 1, 4);
        bothLoads("two of 25", x, 0, 18);
        Check.due("27 two of 25", x.loadBest(0), 2);
        Check.due("33 moon 1", x.ferryOf(1), 0);
        Check.due("33 moon 2", x.ferryOf(2), 0);
        Check.fails("33 moon 0", STATE, () -> x.ferryOf(0));
        Check.fails("33 moon 3", STATE, () -> x.ferryOf(3));
        bothLoads("full", x, 0, 0);
        Check.due("27 full", x.loadBest(0), 0);
        x.land(1);
        bothLoads("room for 25", x, 0, 9);
        x.sail(0, 1);
        Check.fails("28 at sea", STATE, () -> x.bestLoad(0));
        Check.fails("29 at sea", STATE, () -> x.bestLoadByTable(0));
        Check.fails("27 at sea", REFUSED, () -> x.loadBest(0));
        Check.fails("42 nothing kept", ELEMENT, x::refusalReason);
        for (int ferry : new int[] {-1, 1}) {
            Check.fails("27 " + ferry, INDEX, () -> x.loadBest(ferry));
            Check.fails("28 " + ferry, INDEX, () -> x.bestLoad(ferry));
            Check.fails("29 " + ferry, INDEX, () -> x.bestLoadByTable(ferry));
        }
    }

    private static void equalLoads() {
        MoonFerryOffice x = office();
        x.addFerry(0, 9, 20);
        x.addMoon(0, 2, 10, 4);
        x.addMoon(0, 1, 10, 1);
        x.addMoon(0, 1, 10, 1);
        x.addMoon(0, 1, 20, 3);
        x.addMoon(0, 1, 10, 1);
        bothLoads("equal sums", x, 0, 12);
        x.removeChannel(0);
        bothLoads("no ways", x, 0, 0);
        Check.due("27 fares of 0", x.loadBest(0), 2);
        Check.due("33 the lowest", x.ferryOf(0), 0);
        Check.due("33 the next", x.ferryOf(1), 0);
        x.undo();
        x.undo();
        Check.due("27 equal sums", x.loadBest(0), 2);
        Check.due("33 moon 1", x.ferryOf(1), 0);
        Check.due("33 moon 2", x.ferryOf(2), 0);
        Check.fails("33 moon 0", STATE, () -> x.ferryOf(0));
    }

    private static void strandedLoads() {
        MoonFerryOffice x = office();
        x.addFerry(2, 6, 20);
        x.addMoon(2, 1, 5, 1);
        x.addChannel(1, 2, 4, 4);
        bothLoads("stranded", x, 0, 8);
        Check.fails("27 stranded", REFUSED, () -> x.loadBest(0));
        Check.fails("42 nothing kept", ELEMENT, x::refusalReason);
        x.pass(6);
        Check.due("27 afloat", x.loadBest(0), 1);
    }

    private static void rescue() {
        MoonFerryOffice x = office();
        x.addFerry(2, 6, 40);
        x.addFerry(0, 9, 40);
        x.addMoon(2, 1, 5, 1);
        x.addMoon(2, 1, 5, 1);
        x.addMoon(0, 1, 5, 1);
        x.board(1, 2);
        Check.due("30 nobody aboard", x.rescue(0), 0);
        x.pass(6);
        x.loadBest(0);
        Check.fails("30 afloat", STATE, () -> x.rescue(0));
        x.pass(1);
        Check.due("30 two", x.rescue(0), 2);
        Check.due("48 cost", x.coins(), -10);
        Check.due("49 no fares", x.fareTotal(), 0);
        Check.due("34 moon 0", x.shoreOf(0), 2);
        Check.due("34 moon 1", x.shoreOf(1), 2);
        Check.due("33 moon 2", x.ferryOf(2), 1);
        Check.due("30 again", x.rescue(0), 0);
        x.sail(1, 1);
        Check.fails("30 at sea", STATE, () -> x.rescue(1));
        Check.fails("30 ferry 2", INDEX, () -> x.rescue(2));
        Check.fails("30 ferry -1", INDEX, () -> x.rescue(-1));
    }

    private static void readers() {
        MoonFerryOffice x = office();
        Check.due("31 none", x.moonCount(), 0);
        Check.fails("32 none", INDEX, () -> x.moonAt(0));
        x.addFerry(0, 9, 40);
        x.addMoon(0, 1, 5, 7);
        x.addMoon(0, 1, 5, 3);
        x.addMoon(0, 2, 5, 4);
        Check.due("31 three", x.moonCount(), 3);
        Check.due("32 last", x.moonAt(2), 2);
        Check.fails("32 -1", INDEX, () -> x.moonAt(-1));
        Check.fails("32 3", INDEX, () -> x.moonAt(3));
        x.board(0, 1);
        Check.due("33 aboard", x.ferryOf(1), 0);
        Check.fails("33 waits", STATE, () -> x.ferryOf(0));
        Check.due("34 waits", x.shoreOf(0), 0);
        Check.fails("34 aboard", STATE, () -> x.shoreOf(1));
        Check.due("35 phase", x.phaseOf(0), 7);
        Check.due("36 phase 7", x.fareOf(0), 6);
        Check.due("36 phase 3", x.fareOf(1), 12);
        Check.due("36 no way", x.fareOf(2), 0);
        x.pass(24);
        Check.due("35 after 7", x.phaseOf(0), 0);
        Check.due("35 aboard", x.phaseOf(1), 4);
        Check.due("36 phase 0", x.fareOf(0), 3);
        Check.due("36 phase 4", x.fareOf(1), 15);
        x.sail(0, 1);
        x.pass(3);
        x.land(1);
        Check.due("32 after a gap", x.moonAt(1), 2);
        for (int moon : new int[] {-1, 1, 3}) {
            Check.fails("33 " + moon, ELEMENT, () -> x.ferryOf(moon));
            Check.fails("34 " + moon, ELEMENT, () -> x.shoreOf(moon));
            Check.fails("35 " + moon, ELEMENT, () -> x.phaseOf(moon));
            Check.fails("36 " + moon, ELEMENT, () -> x.fareOf(moon));
        }
    }

    private static void bothCounts(MoonFerryOffice x, int fare, int count) {
        Check.due("38 below " + fare, x.countBelow(fare), count);
        Check.due("39 below " + fare, x.countBelowByAsking(fare), count);
    }

    private static void ranks() {
        MoonFerryOffice x = office();
        Check.fails("37 none", ELEMENT, () -> x.moonAtRank(0));
        bothCounts(x, Integer.MAX_VALUE, 0);
        int[] phases = {1, 4, 7, 0, 3};
        for (int phase : phases) {
            x.addMoon(0, 1, 1, phase);
        }
        x.addMoon(0, 2, 1, 4);
        // The fares are 6, 15, 6, 3, 12 and 0.
        int[] ranked = {1, 4, 0, 2, 3, 5};
        for (int rank = 0; rank < 6; rank++) {
            Check.due("37 rank " + rank, x.moonAtRank(rank), ranked[rank]);
        }
        Check.fails("37 -1", ELEMENT, () -> x.moonAtRank(-1));
        Check.fails("37 6", ELEMENT, () -> x.moonAtRank(6));
        int[] fares = {Integer.MIN_VALUE, 0, 1, 3, 4, 6, 7, 12, 13, 15, 16, Integer.MAX_VALUE};
        int[] counts = {0, 0, 1, 1, 2, 2, 4, 4, 5, 5, 6, 6};
        for (int i = 0; i < fares.length; i++) {
            bothCounts(x, fares[i], counts[i]);
        }
    }

    /** Six craters, ten channels, three ferries and ten moons: as much as there can be. */
    private static void fullOffice() {
        MoonFerryOffice x = new MoonFerryOffice();
        for (int i = 0; i < 6; i++) {
            x.addCrater(9);
        }
        for (int i = 0; i < 6; i++) {
            x.addChannel(i, (i + 1) % 6, 2, 9);
        }
        for (int i = 0; i < 4; i++) {
            x.addChannel(i, i + 2, 3, 9);
        }
        for (int i = 0; i < 3; i++) {
            x.addFerry(0, 9, 99);
        }
        for (int i = 0; i < 10; i++) {
            x.addMoon(0, 1, 11, 7 - i % 7);
        }
        Check.due("58 full", x.isConsistent(), true);
        Check.due("12 full", x.cheapestNet(), 10);
        Check.due("13 full", x.cheapestNetByGrowing(), 10);
        Check.due("10 full", x.wayHours(0, 3), 5);
        Check.due("11 full", x.wayHoursByTable(0, 3), 5);
        Check.due("22 full", x.earliestArrival(2, 3), 5);
        Check.due("23 full", x.earliestArrivalByHours(2, 3), 5);
        Check.fails("8 full", ELEMENT, () -> x.channelBetween(0, 3));
        Check.fails("33 full", ELEMENT, () -> x.ferryOf(10));
        Check.due("56 full", x.meanPhase(), 4.6);
        // The lights are 1, 2, 3, 4, 3, 2, 1, 1, 2 and 3.
        Check.due("38 full", x.countBelow(8), 6);
        Check.due("39 full", x.countBelowByAsking(8), 6);
        Check.due("37 full", x.moonAtRank(9), 7);
        bothLoads("nine of ten", x, 2, 60);
        Check.due("27 nine of ten", x.loadBest(2), 9);
        Check.fails("33 the last of the lightest", STATE, () -> x.ferryOf(7));
        Check.due("21 full", x.loadOf(2), 99);
        Check.due("40 full", x.pass(24), 0);
        Check.due("35 full", x.phaseOf(9), 6);
        Check.due("4 full", x.removeChannel(0), 9);
        Check.due("58 fewer", x.isConsistent(), true);
    }

    // What is told of the later moons stays the same when an earlier one leaves.
    private static void leaving() {
        MoonFerryOffice x = office();
        x.addFerry(0, 9, 99);
        x.addFerry(1, 9, 99);
        x.addMoon(0, 1, 1, 1);
        x.addMoon(0, 1, 20, 2);
        x.addMoon(1, 0, 30, 3);
        x.addMoon(0, 2, 7, 4);
        x.board(0, 0);
        x.board(0, 1);
        x.board(1, 2);
        x.sail(0, 1);
        x.pass(3);
        Check.due("26 first", x.land(0), 6);
        Check.due("21 weight kept", x.loadOf(0), 20);
        Check.due("21 weight kept", x.loadOf(1), 30);
        Check.due("33 ferry kept", x.ferryOf(2), 1);
        Check.due("34 shore kept", x.shoreOf(3), 0);
        Check.due("35 phase kept", x.phaseOf(3), 4);
        Check.due("36 fare kept", x.fareOf(2), 12);
        Check.due("36 destination kept", x.fareOf(3), 0);
        Check.due("26 second", x.land(1), 9);
        Check.due("21 nothing", x.loadOf(0), 0);
        x.sail(0, 0);
        x.pass(3);
        Check.due("25 weight kept", x.board(0, 3), 7);
    }
}
