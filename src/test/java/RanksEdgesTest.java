/** The sentences of promises 31 to 39, with their edges. */
public final class RanksEdgesTest extends Edges {
    private static final int[] NO_MOONS = {-1, 3, 10, MIN, MAX};

    /** A way of 3 hours, and three moons with the fares 15, 6 and 9. */
    private static final String PORT = "crater 9, crater 9, channel 0 1 3 9, ferry 0 9 40, ferry 0 9 40, "
            + "moon 0 1 10 4, moon 0 1 20 1, moon 0 1 40 2";
    private static final String FIRST_GONE = PORT + ", board 0 0, sail 0 1, pass 3, land 0";
    private static final String TEN_MOONS = "crater 9, crater 9, channel 0 1 2 9, moon 0 1 1 0, moon 0 1 1 1, "
            + "moon 0 1 1 2, moon 0 1 1 3, moon 0 1 1 4, moon 0 1 1 5, moon 0 1 1 6, moon 0 1 1 7, moon 0 1 1 0, "
            + "moon 0 1 1 1";

    /** Ten fares in ascending order: 1, 2, 3, 4, 5, 9, 18, 27, 36 and 45. */
    private static final String ASCENDING = "crater 9, crater 9, crater 9, channel 0 1 1 9, channel 1 2 9 9, moon 0 1 1 0, "
            + "moon 0 1 1 1, moon 0 1 1 2, moon 0 1 1 3, moon 0 1 1 4, moon 1 2 1 0, moon 1 2 1 1, moon 1 2 1 2, "
            + "moon 1 2 1 3, moon 1 2 1 4";
    private static final String DESCENDING = "crater 9, crater 9, crater 9, channel 0 1 1 9, channel 1 2 9 9, "
            + "moon 1 2 1 4, moon 1 2 1 5, moon 1 2 1 6, moon 1 2 1 7, moon 1 2 1 0, moon 0 1 1 4, moon 0 1 1 5, "
            + "moon 0 1 1 6, moon 0 1 1 7, moon 0 1 1 0";

    public static void main(String[] args) {
        moonCount();
        moonAt();
        ferryOf();
        shoreOf();
        phaseOf();
        fareOf();
        moonAtRank();
        countBelow();
        countBelowByAsking();
        end(9);
    }

    private static void moonCount() {
        section("Promise 31: moonCount");
        says("Returns the number of moons that are present.", () -> {
            due(office("").moonCount(), 0);
            due(office(PORT).moonCount(), 3);
            due(office(PORT + ", board 0 0").moonCount(), 3);
            due(office(FIRST_GONE).moonCount(), 2);
            due(office(TEN_MOONS).moonCount(), 10);
        });
        says("Returns the number of moons.", () -> due(office(FIRST_GONE + ", moon 0 1 1 1").moonCount(), 3));
    }

    private static void moonAt() {
        section("Promise 32: moonAt");
        says("Returns a moon in the ascending order of numbers.", () -> {
            MoonFerryOffice x = office(PORT + ", board 0 1");
            due(x.moonAt(0), 0);
            due(x.moonAt(1), 1);
            due(x.moonAt(2), 2);
        });
        says("`place`: the place in this order, from 0", () -> {
            MoonFerryOffice x = office(TEN_MOONS);
            due(x.moonAt(0), 0);
            due(x.moonAt(9), 9);
        });
        says("Returns the number of the moon.", () -> {
            MoonFerryOffice x = office(FIRST_GONE + ", moon 1 0 1 1");
            due(x.moonAt(0), 1);
            due(x.moonAt(1), 2);
            due(x.moonAt(2), 3);
        });
        says("Throws `IndexOutOfBoundsException` if there is no such place", () -> {
            MoonFerryOffice x = office(PORT);
            for (int place : NO_MOONS) {
                fails(INDEX, () -> x.moonAt(place));
            }
            fails(INDEX, () -> office("").moonAt(0));
            fails(INDEX, () -> office(FIRST_GONE).moonAt(2));
            fails(INDEX, () -> office(TEN_MOONS).moonAt(10));
        });
    }

    private static void ferryOf() {
        section("Promise 33: ferryOf");
        says("Returns the ferry that a moon is aboard.", () -> {
            MoonFerryOffice x = office(PORT + ", board 1 0, board 0 1");
            due(x.ferryOf(0), 1);
            due(x.ferryOf(1), 0);
        });
        says("Returns the number of the ferry.", () -> {
            MoonFerryOffice x = office(FIRST_GONE + ", board 1 2, sail 1 1");
            due(x.ferryOf(2), 1);
        });
        says("Throws `NoSuchElementException` if there is no such moon", () -> {
            MoonFerryOffice x = office(PORT);
            for (int moon : NO_MOONS) {
                fails(ELEMENT, () -> x.ferryOf(moon));
            }
            fails(ELEMENT, () -> office("").ferryOf(0));
            fails(ELEMENT, () -> office(FIRST_GONE).ferryOf(0));
        });
        says("Throws `IllegalStateException` if the moon is not aboard a ferry", () -> {
            MoonFerryOffice x = office(PORT);
            fails(STATE, () -> x.ferryOf(0));
            x.board(0, 0);
            due(x.ferryOf(0), 0);
            x.land(0);
            fails(STATE, () -> x.ferryOf(0));
        });
    }

    private static void shoreOf() {
        section("Promise 34: shoreOf");
        says("Returns the crater in which a moon waits.", () -> {
            MoonFerryOffice x = office(PORT + ", moon 1 0 1 1");
            due(x.shoreOf(0), 0);
            due(x.shoreOf(3), 1);
        });
        says("Returns the number of the crater.", () -> {
            // Where it landed, not where it was added.
            MoonFerryOffice x = office("crater 9, crater 9, crater 9, channel 0 1 3 9, ferry 0 9 40, moon 0 2 1 1, "
                    + "board 0 0, sail 0 1, pass 3, land 0");
            due(x.shoreOf(0), 1);
        });
        says("Throws `NoSuchElementException` if there is no such moon", () -> {
            MoonFerryOffice x = office(PORT);
            for (int moon : NO_MOONS) {
                fails(ELEMENT, () -> x.shoreOf(moon));
            }
            fails(ELEMENT, () -> office("").shoreOf(0));
            fails(ELEMENT, () -> office(FIRST_GONE).shoreOf(0));
        });
        says("Throws `IllegalStateException` if the moon is aboard a ferry", () -> {
            MoonFerryOffice x = office(PORT + ", board 0 0");
            fails(STATE, () -> x.shoreOf(0));
            x.sail(0, 1);
            fails(STATE, () -> x.shoreOf(0));
            x.pass(3);
            fails(STATE, () -> x.shoreOf(0));
            due(x.shoreOf(1), 0);
        });
    }

    private static void phaseOf() {
        section("Promise 35: phaseOf");
        says("Returns the phase of a moon.", () -> {
            MoonFerryOffice x = office(PORT + ", board 0 0, pass 24");
            due(x.phaseOf(0), 5);
            due(x.phaseOf(1), 2);
        });
        says("Returns the phase, 0 to 7.", () -> {
            for (int phase = 0; phase < 8; phase++) {
                MoonFerryOffice x = office("crater 9, crater 9, moon 0 1 1 " + phase);
                due(x.phaseOf(0), phase);
                x.pass(24);
                due(x.phaseOf(0), (phase + 1) % 8);
                x.pass(48);
                due(x.phaseOf(0), (phase + 3) % 8);
            }
        });
        says("Throws `NoSuchElementException` if there is no such moon", () -> {
            MoonFerryOffice x = office(PORT);
            for (int moon : NO_MOONS) {
                fails(ELEMENT, () -> x.phaseOf(moon));
            }
            fails(ELEMENT, () -> office("").phaseOf(0));
            fails(ELEMENT, () -> office(FIRST_GONE).phaseOf(0));
        });
    }

    private static void fareOf() {
        section("Promise 36: fareOf");
        says("Returns the fare that a moon would pay if it came to its destination now.", () -> {
            MoonFerryOffice x = office(PORT);
            due(x.fareOf(0), 15);
            due(x.fareOf(1), 6);
            x.pass(24);
            due(x.fareOf(0), 12);
            due(x.fareOf(1), 9);
            Calls.make(x, "board 0 0, sail 0 1");
            due(x.fareOf(0), 12);
            x.pass(3);
            due(x.land(0), 12);
        });
        says("Returns the fare.", () -> {
            MoonFerryOffice x = office("crater 9, crater 9, crater 9, crater 9, crater 9, crater 9, channel 0 1 9 0, "
                    + "channel 1 2 9 0, channel 2 3 9 0, channel 3 4 9 0, moon 4 0 1 4, moon 0 5 1 4, moon 3 4 1 0");
            due(x.fareOf(0), 180);
            due(x.fareOf(1), 0);
            due(x.fareOf(2), 9);
            x.addChannel(4, 5, 9, 0);
            due(x.fareOf(1), 225);
        });
        says("Throws `NoSuchElementException` if there is no such moon", () -> {
            MoonFerryOffice x = office(PORT);
            for (int moon : NO_MOONS) {
                fails(ELEMENT, () -> x.fareOf(moon));
            }
            fails(ELEMENT, () -> office("").fareOf(0));
            fails(ELEMENT, () -> office(FIRST_GONE).fareOf(0));
        });
    }

    private static void dueRanks(MoonFerryOffice x, int... moons) {
        for (int rank = 0; rank < moons.length; rank++) {
            due(x.moonAtRank(rank), moons[rank]);
        }
    }

    private static void moonAtRank() {
        section("Promise 37: moonAtRank");
        says("Returns the moon at a rank: the moon with the greater fare first;", () -> {
            dueRanks(office(PORT), 0, 2, 1);
            dueRanks(office(PORT + ", pass 48"), 2, 1, 0);
            dueRanks(office(PORT + ", crater 9, moon 0 2 1 4"), 0, 2, 1, 3);
            dueRanks(office(FIRST_GONE), 2, 1);
        });
        says("of moons with the same fare the one with the lower number first.", () -> {
            // The fares are 2, 4, 6, 8, 10, 8, 6, 4, 2 and 4.
            dueRanks(office(TEN_MOONS), 4, 3, 5, 2, 6, 1, 7, 9, 0, 8);
            dueRanks(office(TEN_MOONS + ", removeChannel 0"), 0, 1, 2, 3, 4, 5, 6, 7, 8, 9);
        });
        says("`rank`: the rank, from 0", () -> {
            due(office(TEN_MOONS).moonAtRank(0), 4);
            due(office(TEN_MOONS).moonAtRank(9), 8);
        });
        says("Returns the number of the moon.", () -> {
            MoonFerryOffice x = office(FIRST_GONE + ", moon 0 1 1 4");
            dueRanks(x, 3, 2, 1);
        });
        says("Throws `NoSuchElementException` if there is no such rank", () -> {
            MoonFerryOffice x = office(PORT);
            for (int rank : NO_MOONS) {
                fails(ELEMENT, () -> x.moonAtRank(rank));
            }
            fails(ELEMENT, () -> office("").moonAtRank(0));
            fails(ELEMENT, () -> office(FIRST_GONE).moonAtRank(2));
            fails(ELEMENT, () -> office(TEN_MOONS).moonAtRank(10));
        });
    }

    private static void countBelow() {
        section("Promise 38: countBelow");
        says("Returns the number of moons with a smaller fare than a given one, found in a tree of fares.", () -> {
            MoonFerryOffice x = office(PORT);
            int[] fares = {5, 6, 7, 8, 9, 10, 14, 15, 16};
            int[] counts = {0, 0, 1, 1, 1, 2, 2, 2, 3};
            for (int i = 0; i < fares.length; i++) {
                due(x.countBelow(fares[i]), counts[i]);
            }
            for (String calls : new String[] {ASCENDING, DESCENDING}) {
                MoonFerryOffice ten = office(calls);
                due(ten.countBelow(1), 0);
                due(ten.countBelow(2), 1);
                due(ten.countBelow(9), 5);
                due(ten.countBelow(45), 9);
                due(ten.countBelow(46), 10);
            }
        });
        says("`fare`: the fare, any number", () -> {
            MoonFerryOffice x = office(PORT + ", crater 9, moon 0 2 1 1");
            due(x.countBelow(MIN), 0);
            due(x.countBelow(-1), 0);
            due(x.countBelow(0), 0);
            due(x.countBelow(1), 1);
            due(x.countBelow(MAX), 4);
        });
        says("Returns the number of moons.", () -> {
            due(office("").countBelow(MAX), 0);
            due(office(FIRST_GONE).countBelow(MAX), 2);
            MoonFerryOffice one = office("crater 9, crater 9, channel 0 1 1 9, ferry 0 9 1, moon 0 1 1 4, board 0 0");
            due(one.countBelow(5), 0);
            due(one.countBelow(6), 1);
            Calls.make(one, "sail 0 1, pass 1, land 0");
            due(one.countBelow(6), 0);
            MoonFerryOffice x = office(TEN_MOONS);
            int[] counts = {0, 0, 0, 2, 2, 5, 5, 7, 7, 9, 9, 10};
            for (int fare = 0; fare < 12; fare++) {
                due(x.countBelow(fare), counts[fare]);
            }
        });
    }

    private static void countBelowByAsking() {
        section("Promise 39: countBelowByAsking");
        says("Returns the same number as countBelow(), found by asking all moons.", () -> {
            MoonFerryOffice x = office(PORT);
            int[] fares = {5, 6, 7, 8, 9, 10, 14, 15, 16};
            int[] counts = {0, 0, 1, 1, 1, 2, 2, 2, 3};
            for (int i = 0; i < fares.length; i++) {
                due(x.countBelowByAsking(fares[i]), counts[i]);
            }
            for (String calls : new String[] {ASCENDING, DESCENDING}) {
                MoonFerryOffice ten = office(calls);
                due(ten.countBelowByAsking(1), 0);
                due(ten.countBelowByAsking(2), 1);
                due(ten.countBelowByAsking(9), 5);
                due(ten.countBelowByAsking(45), 9);
                due(ten.countBelowByAsking(46), 10);
            }
        });
        says("`fare`: the fare, any number", () -> {
            MoonFerryOffice x = office(PORT + ", crater 9, moon 0 2 1 1");
            due(x.countBelowByAsking(MIN), 0);
            due(x.countBelowByAsking(-1), 0);
            due(x.countBelowByAsking(0), 0);
            due(x.countBelowByAsking(1), 1);
            due(x.countBelowByAsking(MAX), 4);
        });
        says("Returns the number of moons.", () -> {
            due(office("").countBelowByAsking(MAX), 0);
            due(office(FIRST_GONE).countBelowByAsking(MAX), 2);
            MoonFerryOffice one = office("crater 9, crater 9, channel 0 1 1 9, ferry 0 9 1, moon 0 1 1 4, board 0 0");
            due(one.countBelowByAsking(5), 0);
            due(one.countBelowByAsking(6), 1);
            Calls.make(one, "sail 0 1, pass 1, land 0");
            due(one.countBelowByAsking(6), 0);
            MoonFerryOffice x = office(TEN_MOONS);
            int[] counts = {0, 0, 0, 2, 2, 5, 5, 7, 7, 9, 9, 10};
            for (int fare = 0; fare < 12; fare++) {
                due(x.countBelowByAsking(fare), counts[fare]);
            }
        });
    }
}
