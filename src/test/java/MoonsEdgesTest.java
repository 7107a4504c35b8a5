/** The sentences of promises 24 to 30, with their edges. */
public final class MoonsEdgesTest extends Edges {
    private static final int[] NO_FERRIES = {-1, 2, 3, MIN, MAX};
    private static final int[] NO_MOONS = {-1, 3, 10, MIN, MAX};

    /** A way of 3 hours, two ferries at its one end and three moons there. */
    private static final String PORT = "crater 9, crater 9, channel 0 1 3 9, ferry 0 9 40, ferry 0 9 40, "
            + "moon 0 1 10 4, moon 0 1 20 1, moon 0 1 40 2";
    private static final String SAILED = PORT + ", board 0 0, board 0 1, sail 0 1";

    /** Ferry 0 is stranded with the moons 0 and 1 aboard; moon 2 waits beside it. */
    private static final String STRANDED = "crater 0, crater 9, channel 0 1 3 9, ferry 0 1 40, moon 0 1 10 4, "
            + "moon 0 1 20 1, moon 0 1 1 1, pass 1, board 0 0, board 0 1, pass 11";
    private static final String TEN_MOONS = "moon 0 1 40 1, moon 0 1 1 1, moon 0 1 1 1, moon 0 1 1 1, moon 0 1 1 1, "
            + "moon 0 1 1 1, moon 0 1 1 1, moon 0 1 1 1, moon 0 1 1 1, moon 0 1 1 1";

    public static void main(String[] args) {
        addMoon();
        addMoonThrows();
        board();
        boardThrows();
        land();
        landThrows();
        loadBest();
        bestLoad();
        bestLoadByTable();
        rescue();
        end(7);
    }

    private static void addMoon() {
        section("Promise 24: addMoon");
        says("Adds a moon, which waits in a crater.", () -> {
            MoonFerryOffice x = office("crater 9, crater 9, channel 0 1 2 0, moon 1 0 7 3");
            due(x.moonCount(), 1);
            due(x.shoreOf(0), 1);
            fails(STATE, () -> x.ferryOf(0));
            due(x.phaseOf(0), 3);
            due(x.fareOf(0), 8);
        });
        says("`weight`: the weight, 1 to 40", () -> {
            MoonFerryOffice x = office("crater 9, crater 9, ferry 0 9 99");
            due(x.addMoon(0, 1, 1, 1), 0);
            due(x.addMoon(0, 1, 40, 1), 1);
            due(x.board(0, 0), 1);
            due(x.board(0, 1), 41);
        });
        says("`phase`: the phase, 0 to 7", () -> {
            MoonFerryOffice x = office("crater 9, crater 9");
            due(x.addMoon(0, 1, 1, 0), 0);
            due(x.addMoon(0, 1, 1, 7), 1);
            due(x.phaseOf(0), 0);
            due(x.phaseOf(1), 7);
        });
        says("Returns the number of the moon.", () -> {
            MoonFerryOffice x = office(PORT + ", board 0 0, sail 0 1, pass 3, land 0");
            due(x.addMoon(0, 1, 1, 1), 3);
            due(office("crater 9, crater 9").addMoon(0, 1, 1, 1), 0);
        });
    }

    private static void addMoonThrows() {
        says("Throws `IndexOutOfBoundsException` if there is no such crater, for either", () -> {
            MoonFerryOffice x = office("crater 9, crater 9");
            for (int crater : new int[] {-1, 2, 6, MIN, MAX}) {
                fails(INDEX, () -> x.addMoon(crater, 0, 1, 1));
                fails(INDEX, () -> x.addMoon(0, crater, 1, 1));
                fails(INDEX, () -> x.addMoon(crater, crater, 1, 1));
                fails(INDEX, () -> x.addMoon(crater, 0, 41, 8));
            }
            fails(INDEX, () -> office("").addMoon(0, 0, 1, 1));
            fails(INDEX, () -> office("crater 9, crater 9, " + TEN_MOONS).addMoon(0, 2, 1, 1));
            due(x.moonCount(), 0);
            due(x.addMoon(0, 1, 1, 1), 0);
        });
        says("Throws `IllegalArgumentException` if both craters are the same, or the weight or the phase is out of "
                + "range", () -> {
            MoonFerryOffice x = office("crater 9, crater 9");
            fails(ARGUMENT, () -> x.addMoon(0, 0, 1, 1));
            fails(ARGUMENT, () -> x.addMoon(1, 1, 1, 1));
            for (int weight : new int[] {0, 41, -1, MIN, MAX}) {
                fails(ARGUMENT, () -> x.addMoon(0, 1, weight, 1));
            }
            for (int phase : new int[] {-1, 8, MIN, MAX}) {
                fails(ARGUMENT, () -> x.addMoon(0, 1, 1, phase));
            }
            MoonFerryOffice full = office("crater 9, crater 9, " + TEN_MOONS);
            fails(ARGUMENT, () -> full.addMoon(0, 0, 1, 1));
            fails(ARGUMENT, () -> full.addMoon(0, 1, 0, 1));
            fails(ARGUMENT, () -> full.addMoon(0, 1, 1, 8));
            due(x.addMoon(0, 1, 1, 1), 0);
        });
        says("Throws `IllegalStateException` if there are 10 moons", () -> {
            MoonFerryOffice x = office("crater 9, crater 9, channel 0 1 1 9, ferry 0 9 40, " + TEN_MOONS);
            fails(STATE, () -> x.addMoon(0, 1, 1, 1));
            x.board(0, 0);
            fails(STATE, () -> x.addMoon(0, 1, 1, 1));
            Calls.make(x, "sail 0 1, pass 1, land 0");
            due(x.addMoon(0, 1, 1, 1), 10);
            fails(STATE, () -> x.addMoon(0, 1, 1, 1));
            due(x.moonCount(), 10);
        });
    }

    private static void board() {
        section("Promise 25: board");
        says("Lets a moon board a ferry.", () -> {
            MoonFerryOffice x = office(PORT + ", board 1 1");
            due(x.ferryOf(1), 1);
            fails(STATE, () -> x.shoreOf(1));
            due(x.loadOf(1), 20);
            due(x.loadOf(0), 0);
        });
        says("Returns the weight of the moons aboard the ferry after the call.", () -> {
            MoonFerryOffice x = office(PORT + ", moon 0 1 30 7");
            due(x.board(0, 0), 10);
            due(x.board(0, 3), 40);
            due(x.board(1, 2), 40);
            x.land(0);
            due(x.board(0, 0), 40);
        });
    }

    private static void boardThrows() {
        says("Throws `IndexOutOfBoundsException` if there is no such ferry", () -> {
            MoonFerryOffice x = office(PORT + ", board 0 0");
            for (int ferry : NO_FERRIES) {
                fails(INDEX, () -> x.board(ferry, 1));
                fails(INDEX, () -> x.board(ferry, 0));
                fails(INDEX, () -> x.board(ferry, 9));
            }
            fails(ELEMENT, x::refusalReason);
            fails(INDEX, () -> office("").board(0, 0));
        });
        says("Throws `NoSuchElementException` if there is no such moon", () -> {
            MoonFerryOffice x = office(PORT);
            for (int moon : NO_MOONS) {
                fails(ELEMENT, () -> x.board(0, moon));
            }
            Calls.make(x, "board 0 0, sail 0 1, pass 3, land 0");
            fails(ELEMENT, () -> x.board(0, 0));
            x.sail(0, 0);
            fails(ELEMENT, () -> x.board(0, 0));
            fails(ELEMENT, x::refusalReason);
            fails(ELEMENT, () -> office("crater 9, ferry 0 1 1").board(0, 0));
        });
        says("Throws `IllegalStateException` if the moon is aboard a ferry", () -> {
            MoonFerryOffice x = office(PORT + ", board 0 0");
            fails(STATE, () -> x.board(0, 0));
            fails(STATE, () -> x.board(1, 0));
            x.sail(0, 1);
            fails(STATE, () -> x.board(0, 0));
            fails(STATE, () -> x.board(1, 0));
            fails(ELEMENT, x::refusalReason);
            fails(STATE, () -> office(STRANDED).board(0, 0));
        });
        says("Throws `UnsupportedOperationException` if it is refused;", () -> {
            MoonFerryOffice x = office(PORT + ", moon 1 0 1 1, moon 0 1 1 0, board 0 1");
            fails(REFUSED, () -> x.board(0, 3));
            fails(REFUSED, () -> x.board(0, 2));
            fails(REFUSED, () -> x.board(0, 4));
            fails(REFUSED, () -> office(STRANDED).board(0, 2));
            due(x.board(0, 0), 30);
        });
        says("the reason is kept", () -> {
            MoonFerryOffice x = office(PORT + ", moon 1 0 1 1, moon 0 1 1 0, board 0 1");
            fails(REFUSED, () -> x.board(0, 3));
            due(x.refusalReason(), 4);
            fails(REFUSED, () -> x.board(0, 2));
            due(x.refusalReason(), 6);
            fails(REFUSED, () -> x.board(0, 4));
            due(x.refusalReason(), 7);
            x.board(0, 0);
            due(x.refusalReason(), 7);
            MoonFerryOffice y = office(STRANDED);
            fails(REFUSED, () -> y.board(0, 2));
            due(y.refusalReason(), 5);
        });
    }

    private static void land() {
        section("Promise 26: land");
        says("Lets a moon leave its ferry.", () -> {
            MoonFerryOffice x = office(PORT + ", board 0 0, board 0 1");
            x.land(0);
            due(x.loadOf(0), 20);
            fails(STATE, () -> x.ferryOf(0));
            due(x.ferryOf(1), 0);
        });
        says("If it is in its destination, it pays its fare and is not present any more;", () -> {
            MoonFerryOffice x = office(SAILED + ", pass 3, land 0");
            due(x.fareTotal(), 15);
            due(x.coins(), 15);
            due(x.moonCount(), 2);
            due(x.moonAt(0), 1);
            fails(ELEMENT, () -> x.fareOf(0));
            due(x.loadOf(0), 20);
            // The other moons stay what they were.
            MoonFerryOffice z = office("crater 9, crater 9, crater 9, channel 0 1 3 9, channel 1 2 2 9, ferry 0 9 99, "
                    + "ferry 1 9 99, moon 0 1 1 4, moon 0 2 20 1, moon 2 1 30 2, moon 1 0 7 3, load 0, board 1 3, "
                    + "sail 0 1, pass 3, land 0");
            due(z.fareOf(1), 10);
            due(z.fareOf(2), 6);
            due(z.fareOf(3), 12);
            due(z.ferryOf(1), 0);
            due(z.shoreOf(2), 2);
            due(z.ferryOf(3), 1);
            due(z.loadOf(0), 20);
            due(z.loadOf(1), 7);
            due(z.phaseOf(3), 3);
            due(z.land(1), 0);
            due(z.shoreOf(1), 1);
            // The fare is the one of the hour in which it lands, also that of phase 0.
            MoonFerryOffice y = office("crater 9, crater 9, channel 0 1 3 9, ferry 0 9 40, moon 0 1 1 7, board 0 0, "
                    + "sail 0 1, pass 24");
            due(y.land(0), 3);
            due(y.moonCount(), 0);
        });
        says("otherwise it waits there.", () -> {
            MoonFerryOffice x = office(SAILED + ", pass 3, sail 0 0, pass 3, land 0");
            due(x.shoreOf(0), 0);
            due(x.moonCount(), 3);
            due(x.coins(), 0);
            due(x.board(1, 0), 10);
            MoonFerryOffice y = office("crater 9, crater 9, crater 9, channel 0 1 3 9, ferry 0 9 40, moon 0 2 1 7, "
                    + "board 0 0, sail 0 1, pass 3, land 0");
            due(y.shoreOf(0), 1);
        });
        says("Returns the fare that it pays, 0 if it goes on waiting.", () -> {
            MoonFerryOffice x = office(SAILED + ", pass 3");
            due(x.land(0), 15);
            due(x.land(1), 6);
            MoonFerryOffice y = office(PORT + ", board 0 0");
            due(y.land(0), 0);
            due(y.moonCount(), 3);
            MoonFerryOffice z = office(SAILED + ", pass 3, removeChannel 0");
            due(z.land(0), 0);
            due(z.moonCount(), 2);
        });
    }

    private static void landThrows() {
        says("Throws `NoSuchElementException` if there is no such moon", () -> {
            MoonFerryOffice x = office(SAILED);
            for (int moon : NO_MOONS) {
                fails(ELEMENT, () -> x.land(moon));
            }
            Calls.make(x, "pass 3, land 0");
            fails(ELEMENT, () -> x.land(0));
            fails(ELEMENT, () -> office("").land(0));
        });
        says("Throws `IllegalStateException` if the moon is not aboard a ferry", () -> {
            MoonFerryOffice x = office(PORT);
            fails(STATE, () -> x.land(0));
            Calls.make(x, "board 0 0, land 0");
            fails(STATE, () -> x.land(0));
            x.sail(0, 1);
            fails(STATE, () -> x.land(1));
            fails(STATE, () -> office(STRANDED).land(2));
        });
        says("Throws `UnsupportedOperationException` if the ferry is at sea or stranded", () -> {
            MoonFerryOffice x = office(SAILED);
            fails(REFUSED, () -> x.land(0));
            x.pass(2);
            fails(REFUSED, () -> x.land(1));
            fails(ELEMENT, x::refusalReason);
            x.pass(1);
            due(x.land(0), 15);
            MoonFerryOffice y = office(STRANDED);
            fails(REFUSED, () -> y.land(0));
            fails(ELEMENT, y::refusalReason);
            y.pass(1);
            due(y.land(0), 0);
        });
    }

    private static void loadBest() {
        section("Promise 27: loadBest");
        says("Lets the best load of a ferry board it.", () -> {
            MoonFerryOffice x = office(PORT + ", loadBest 1");
            due(x.ferryOf(0), 1);
            due(x.ferryOf(1), 1);
            due(x.shoreOf(2), 0);
            due(x.loadOf(1), 30);
            due(x.loadOf(0), 0);
        });
        says("Returns the number of moons that board.", () -> {
            MoonFerryOffice x = office(PORT);
            due(x.loadBest(0), 2);
            due(x.loadBest(0), 0);
            due(x.loadBest(1), 1);
            due(office("crater 9, ferry 0 1 1").loadBest(0), 0);
            MoonFerryOffice full = office("crater 9, crater 9, ferry 0 9 49, " + TEN_MOONS);
            due(full.loadBest(0), 10);
            due(full.loadOf(0), 49);
            due(office("crater 9, crater 9, ferry 0 9 48, " + TEN_MOONS).loadBest(0), 9);
        });
        says("Throws `IndexOutOfBoundsException` if there is no such ferry", () -> {
            MoonFerryOffice x = office(PORT);
            for (int ferry : NO_FERRIES) {
                fails(INDEX, () -> x.loadBest(ferry));
            }
            fails(INDEX, () -> office("").loadBest(0));
        });
        says("Throws `UnsupportedOperationException` if the ferry is at sea or stranded", () -> {
            MoonFerryOffice x = office(PORT + ", sail 0 1");
            fails(REFUSED, () -> x.loadBest(0));
            x.pass(2);
            fails(REFUSED, () -> x.loadBest(0));
            fails(ELEMENT, x::refusalReason);
            x.pass(1);
            due(x.loadBest(0), 0);
            MoonFerryOffice y = office(STRANDED);
            fails(REFUSED, () -> y.loadBest(0));
            fails(ELEMENT, y::refusalReason);
            y.pass(1);
            due(y.loadBest(0), 1);
        });
    }

    private static void bestLoad() {
        section("Promise 28: bestLoad");
        says("Returns the sum of the fares of the best load of a ferry, found by deciding moon after moon.", () -> {
            due(office(PORT).bestLoad(0), 21);
            due(office(PORT + ", moon 0 1 20 4").bestLoad(0), 30);
            due(office("crater 9, crater 9, channel 0 1 9 9, ferry 0 9 49, " + TEN_MOONS).bestLoad(0), 180);
            due(office("crater 9, crater 9, channel 0 1 9 9, ferry 0 9 48, " + TEN_MOONS).bestLoad(0), 162);
            // Also for a stranded ferry.
            due(office(STRANDED).bestLoad(0), 6);
        });
        says("Returns the sum, 0 if the best load is empty.", () -> {
            due(office("crater 9, ferry 0 1 1").bestLoad(0), 0);
            due(office("crater 9, crater 9, channel 0 1 9 9, ferry 0 1 1, moon 0 1 1 0").bestLoad(0), 0);
            due(office("crater 9, crater 9, channel 0 1 9 9, ferry 0 1 1, moon 0 1 2 4").bestLoad(0), 0);
            due(office("crater 9, crater 9, channel 0 1 9 9, ferry 0 1 1, moon 1 0 1 4").bestLoad(0), 0);
            due(office("crater 9, crater 9, channel 0 1 9 9, ferry 0 1 1, moon 0 1 1 4").bestLoad(0), 45);
            due(office(PORT + ", board 0 2").bestLoad(0), 0);
        });
        says("Throws `IndexOutOfBoundsException` if there is no such ferry", () -> {
            MoonFerryOffice x = office(PORT);
            for (int ferry : NO_FERRIES) {
                fails(INDEX, () -> x.bestLoad(ferry));
            }
            fails(INDEX, () -> office("").bestLoad(0));
        });
        says("Throws `IllegalStateException` if the ferry is at sea", () -> {
            MoonFerryOffice x = office(PORT + ", sail 0 1");
            fails(STATE, () -> x.bestLoad(0));
            due(x.bestLoad(1), 21);
            x.pass(2);
            fails(STATE, () -> x.bestLoad(0));
            x.pass(1);
            due(x.bestLoad(0), 0);
        });
    }

    private static void bestLoadByTable() {
        section("Promise 29: bestLoadByTable");
        says("Returns the same sum as bestLoad(), found with a table of weights.", () -> {
            due(office(PORT).bestLoadByTable(0), 21);
            due(office(PORT + ", moon 0 1 20 4").bestLoadByTable(0), 30);
            due(office("crater 9, crater 9, channel 0 1 9 9, ferry 0 9 49, " + TEN_MOONS).bestLoadByTable(0), 180);
            due(office("crater 9, crater 9, channel 0 1 9 9, ferry 0 9 48, " + TEN_MOONS).bestLoadByTable(0), 162);
            due(office("crater 9, crater 9, channel 0 1 9 9, ferry 0 9 99, " + TEN_MOONS).bestLoadByTable(0), 180);
            due(office(STRANDED).bestLoadByTable(0), 6);
        });
        says("Returns the sum.", () -> {
            due(office("crater 9, ferry 0 1 1").bestLoadByTable(0), 0);
            due(office("crater 9, crater 9, channel 0 1 9 9, ferry 0 1 1, moon 0 1 1 0").bestLoadByTable(0), 0);
            due(office("crater 9, crater 9, channel 0 1 9 9, ferry 0 1 1, moon 0 1 2 4").bestLoadByTable(0), 0);
            due(office("crater 9, crater 9, channel 0 1 9 9, ferry 0 1 1, moon 1 0 1 4").bestLoadByTable(0), 0);
            due(office("crater 9, crater 9, channel 0 1 9 9, ferry 0 1 1, moon 0 1 1 4").bestLoadByTable(0), 45);
            due(office(PORT + ", board 0 2").bestLoadByTable(0), 0);
        });
        says("Throws `IndexOutOfBoundsException` if there is no such ferry", () -> {
            MoonFerryOffice x = office(PORT);
            for (int ferry : NO_FERRIES) {
                fails(INDEX, () -> x.bestLoadByTable(ferry));
            }
            fails(INDEX, () -> office("").bestLoadByTable(0));
        });
        says("Throws `IllegalStateException` if the ferry is at sea", () -> {
            MoonFerryOffice x = office(PORT + ", sail 0 1");
            fails(STATE, () -> x.bestLoadByTable(0));
            due(x.bestLoadByTable(1), 21);
            x.pass(2);
            fails(STATE, () -> x.bestLoadByTable(0));
            x.pass(1);
            due(x.bestLoadByTable(0), 0);
        });
    }

    private static void rescue() {
        section("Promise 30: rescue");
        says("Rescues a stranded ferry: all moons aboard leave it and wait in its crater.", () -> {
            MoonFerryOffice x = office(STRANDED + ", rescue 0");
            due(x.shoreOf(0), 0);
            due(x.shoreOf(1), 0);
            due(x.loadOf(0), 0);
            due(x.isStranded(0), true);
            due(x.moonCount(), 3);
            // Also in their destination they wait: nobody lands, and nobody pays.
            MoonFerryOffice y = office("crater 9, crater 0, channel 0 1 3 9, ferry 0 5 40, ferry 0 9 40, moon 0 1 1 4, "
                    + "moon 0 1 1 1, board 0 0, board 1 1, sail 0 1, pass 3, rescue 0");
            due(y.shoreOf(0), 1);
            due(y.ferryOf(1), 1);
            due(y.fareTotal(), 0);
            due(y.coins(), -5);
            Calls.make(y, "pass 2, board 0 0");
            due(y.land(0), 15);
            due(y.coins(), 10);
        });
        says("Returns the number of moons that leave it.", () -> {
            MoonFerryOffice x = office(STRANDED);
            due(x.rescue(0), 2);
            due(x.rescue(0), 0);
            due(office("crater 0, ferry 0 1 1").rescue(0), 0);
            due(office("crater 0, crater 9, ferry 0 1 99, " + TEN_MOONS + ", pass 1, loadBest 0, pass 11").rescue(0), 10);
        });
        says("Throws `IndexOutOfBoundsException` if there is no such ferry", () -> {
            MoonFerryOffice x = office("crater 0, ferry 0 1 1, ferry 0 1 1");
            for (int ferry : NO_FERRIES) {
                fails(INDEX, () -> x.rescue(ferry));
            }
            fails(INDEX, () -> office("").rescue(0));
        });
        says("Throws `IllegalStateException` if the ferry is not stranded", () -> {
            MoonFerryOffice x = office("crater 0, crater 0, channel 0 1 9 9, ferry 0 1 1, pass 1");
            fails(STATE, () -> x.rescue(0));
            x.sail(0, 1);
            fails(STATE, () -> x.rescue(0));
            x.pass(8);
            fails(STATE, () -> x.rescue(0));
            x.pass(1);
            fails(STATE, () -> x.rescue(0));
            due(x.coins(), 0);
            x.pass(2);
            due(x.rescue(0), 0);
            x.pass(1);
            fails(STATE, () -> x.rescue(0));
        });
    }
}
