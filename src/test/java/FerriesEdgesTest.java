/** The sentences of promises 14 to 23, with their edges. */
public final class FerriesEdgesTest extends Edges {
    private static final int[] NO_FERRIES = {-1, 2, 3, MIN, MAX};
    private static final String PAIR = "crater 9, crater 9, channel 0 1 3 9, ferry 0 9 40, ferry 1 9 40";
    private static final String AT_SEA = PAIR + ", sail 0 1";
    private static final String FARTHEST = "crater 9, crater 0, crater 0, crater 0, crater 0, crater 0, "
            + "channel 0 1 9 9, channel 1 2 9 9, channel 2 3 9 9, channel 3 4 9 9, channel 4 5 9 9, channel 5 0 9 0, "
            + "ferry 0 6 1, pass 34, sail 0 1, pass 9, removeChannel 0";

    public static void main(String[] args) {
        addFerry();
        addFerryThrows();
        sail();
        sailThrows();
        isAtSea();
        craterOf();
        targetOf();
        hoursLeft();
        isStranded();
        loadOf();
        earliestArrival();
        earliestArrivalByHours();
        end(10);
    }

    private static void addFerry() {
        section("Promise 14: addFerry");
        says("Adds a ferry.", () -> {
            MoonFerryOffice x = office("crater 5, crater 6, ferry 1 7 8");
            due(x.craterOf(0), 1);
            due(x.isAtSea(0), false);
            due(x.isStranded(0), true);
            due(x.loadOf(0), 0);
            due(x.hoursLeft(0), 0);
            due(x.strandingCount(), 0);
            due(x.passageCount(), 0);
        });
        says("`draught`: the draught, 1 to 12", () -> {
            MoonFerryOffice x = office("crater 0, crater 6");
            due(x.addFerry(0, 1, 1), 0);
            due(x.addFerry(1, 12, 1), 1);
            due(x.isStranded(0), true);
            x.pass(1);
            due(x.isStranded(0), false);
            x.pass(4);
            due(x.isStranded(1), true);
            x.pass(1);
            due(x.isStranded(1), false);
        });
        says("`capacity`: the weight that it can carry, 1 to 99", () -> {
            MoonFerryOffice x = office("crater 9, crater 9, moon 0 1 1 1, moon 0 1 40 1, moon 0 1 40 1, moon 0 1 19 1, "
                    + "moon 0 1 1 1");
            due(x.addFerry(0, 1, 1), 0);
            due(x.addFerry(0, 1, 99), 1);
            fails(REFUSED, () -> x.board(0, 1));
            due(x.board(0, 0), 1);
            fails(REFUSED, () -> x.board(0, 4));
            Calls.make(x, "board 1 1, board 1 2");
            due(x.board(1, 3), 99);
            fails(REFUSED, () -> x.board(1, 4));
        });
        says("Returns the number of the ferry.", () -> {
            MoonFerryOffice x = office("crater 9, crater 9");
            due(x.addFerry(1, 1, 1), 0);
            due(x.addFerry(0, 2, 2), 1);
            due(x.addFerry(1, 3, 3), 2);
            due(x.craterOf(1), 0);
        });
    }

    private static void addFerryThrows() {
        says("Throws `IndexOutOfBoundsException` if there is no such crater", () -> {
            MoonFerryOffice x = office("crater 9, crater 9");
            for (int crater : new int[] {-1, 2, MIN, MAX}) {
                fails(INDEX, () -> x.addFerry(crater, 1, 1));
                fails(INDEX, () -> x.addFerry(crater, 0, 1));
                fails(INDEX, () -> x.addFerry(crater, 1, 100));
            }
            fails(INDEX, () -> office("").addFerry(0, 1, 1));
            fails(INDEX, () -> office("crater 9, ferry 0 1 1, ferry 0 1 1, ferry 0 1 1").addFerry(1, 1, 1));
            due(x.addFerry(1, 1, 1), 0);
        });
        says("Throws `IllegalArgumentException` if the draught or the capacity is out of range", () -> {
            MoonFerryOffice x = office("crater 9");
            for (int draught : new int[] {0, 13, -1, MIN, MAX}) {
                fails(ARGUMENT, () -> x.addFerry(0, draught, 1));
            }
            for (int capacity : new int[] {0, 100, -1, MIN, MAX}) {
                fails(ARGUMENT, () -> x.addFerry(0, 1, capacity));
            }
            MoonFerryOffice full = office("crater 9, ferry 0 1 1, ferry 0 1 1, ferry 0 1 1");
            fails(ARGUMENT, () -> full.addFerry(0, 13, 1));
            fails(ARGUMENT, () -> full.addFerry(0, 1, 0));
            due(x.addFerry(0, 12, 99), 0);
        });
        says("Throws `IllegalStateException` if there are 3 ferries", () -> {
            MoonFerryOffice x = office("crater 9, ferry 0 1 1, ferry 0 1 1");
            due(x.addFerry(0, 1, 1), 2);
            fails(STATE, () -> x.addFerry(0, 1, 1));
            due(x.undo(), 3);
            due(x.addFerry(0, 1, 1), 2);
        });
    }

    private static void sail() {
        section("Promise 15: sail");
        says("Lets a ferry begin a passage through the channel to a crater.", () -> {
            MoonFerryOffice x = office(PAIR);
            x.sail(1, 0);
            due(x.isAtSea(1), true);
            due(x.targetOf(1), 0);
            due(x.hoursLeft(1), 3);
            due(x.isAtSea(0), false);
            due(x.hour(), 0);
            due(x.passageCount(), 0);
        });
        says("Returns the hour of the arrival.", () -> {
            MoonFerryOffice x = office("crater 9, crater 9, crater 9, channel 0 1 1 9, channel 0 2 9 9, ferry 0 1 1, "
                    + "ferry 0 1 1, pass 48");
            due(x.sail(0, 1), 49);
            due(x.sail(1, 2), 57);
            due(x.pass(9), 2);
            due(x.sail(1, 0), 66);
        });
    }

    private static void sailThrows() {
        says("Throws `IndexOutOfBoundsException` if there is no such ferry, or no such crater", () -> {
            MoonFerryOffice x = office(AT_SEA);
            for (int ferry : NO_FERRIES) {
                fails(INDEX, () -> x.sail(ferry, 0));
                fails(INDEX, () -> x.sail(ferry, ferry));
            }
            for (int crater : new int[] {-1, 2, 6, MIN, MAX}) {
                fails(INDEX, () -> x.sail(0, crater));
                fails(INDEX, () -> x.sail(1, crater));
            }
            fails(ELEMENT, x::refusalReason);
            fails(INDEX, () -> office("crater 1").sail(0, 0));
        });
        says("Throws `IllegalStateException` if the ferry is at sea", () -> {
            MoonFerryOffice x = office(AT_SEA + ", crater 9");
            fails(STATE, () -> x.sail(0, 1));
            fails(STATE, () -> x.sail(0, 0));
            fails(STATE, () -> x.sail(0, 2));
            fails(ELEMENT, x::refusalReason);
            x.pass(2);
            fails(STATE, () -> x.sail(0, 0));
            x.pass(1);
            due(x.sail(0, 0), 6);
        });
        says("Throws `UnsupportedOperationException` if it is refused;", () -> {
            MoonFerryOffice x = office("crater 2, crater 9, crater 9, channel 0 1 1 0, ferry 0 3 1");
            fails(REFUSED, () -> x.sail(0, 2));
            fails(REFUSED, () -> x.sail(0, 1));
            x.pass(1);
            fails(REFUSED, () -> x.sail(0, 1));
            x.pass(2);
            due(x.sail(0, 1), 4);
        });
        says("the reason is kept", () -> {
            MoonFerryOffice x = office("crater 2, crater 9, crater 9, channel 0 1 1 0, ferry 0 3 1");
            fails(REFUSED, () -> x.sail(0, 2));
            due(x.refusalReason(), 1);
            fails(REFUSED, () -> x.sail(0, 1));
            due(x.refusalReason(), 2);
            x.pass(1);
            fails(REFUSED, () -> x.sail(0, 1));
            due(x.refusalReason(), 3);
            Calls.make(x, "pass 2, sail 0 1");
            due(x.refusalReason(), 3);
        });
    }

    private static void isAtSea() {
        section("Promise 16: isAtSea");
        says("Returns whether a ferry is at sea.", () -> {
            MoonFerryOffice x = office(PAIR);
            due(x.isAtSea(0), false);
            x.sail(0, 1);
            due(x.isAtSea(0), true);
            due(x.isAtSea(1), false);
        });
        says("Returns whether it is at sea.", () -> {
            MoonFerryOffice x = office(AT_SEA + ", pass 2");
            due(x.isAtSea(0), true);
            x.pass(1);
            due(x.isAtSea(0), false);
        });
        says("Throws `IndexOutOfBoundsException` if there is no such ferry", () -> {
            MoonFerryOffice x = office(AT_SEA);
            for (int ferry : NO_FERRIES) {
                fails(INDEX, () -> x.isAtSea(ferry));
            }
            fails(INDEX, () -> office("").isAtSea(0));
        });
    }

    private static void craterOf() {
        section("Promise 17: craterOf");
        says("Returns the crater in which a ferry is.", () -> {
            MoonFerryOffice x = office(PAIR);
            due(x.craterOf(0), 0);
            due(x.craterOf(1), 1);
        });
        says("Returns the number of the crater.", () -> due(office(AT_SEA + ", pass 3").craterOf(0), 1));
        says("Throws `IndexOutOfBoundsException` if there is no such ferry", () -> {
            MoonFerryOffice x = office(AT_SEA);
            for (int ferry : NO_FERRIES) {
                fails(INDEX, () -> x.craterOf(ferry));
            }
            fails(INDEX, () -> office("").craterOf(0));
        });
        says("Throws `IllegalStateException` if the ferry is at sea", () -> {
            MoonFerryOffice x = office(AT_SEA);
            fails(STATE, () -> x.craterOf(0));
            x.pass(2);
            fails(STATE, () -> x.craterOf(0));
            due(x.craterOf(1), 1);
        });
    }

    private static void targetOf() {
        section("Promise 18: targetOf");
        says("Returns the crater to which a ferry is sailing.", () -> {
            MoonFerryOffice x = office(AT_SEA + ", sail 1 0");
            due(x.targetOf(0), 1);
            due(x.targetOf(1), 0);
        });
        says("Returns the number of the crater.", () -> {
            MoonFerryOffice x = office(AT_SEA + ", pass 2");
            due(x.targetOf(0), 1);
        });
        says("Throws `IndexOutOfBoundsException` if there is no such ferry", () -> {
            MoonFerryOffice x = office(AT_SEA);
            for (int ferry : NO_FERRIES) {
                fails(INDEX, () -> x.targetOf(ferry));
            }
            fails(INDEX, () -> office("").targetOf(0));
        });
        says("Throws `IllegalStateException` if the ferry is not at sea", () -> {
            MoonFerryOffice x = office(AT_SEA);
            fails(STATE, () -> x.targetOf(1));
            x.pass(3);
            fails(STATE, () -> x.targetOf(0));
        });
    }

    private static void hoursLeft() {
        section("Promise 19: hoursLeft");
        says("Returns after how many hours a ferry will arrive.", () -> {
            MoonFerryOffice x = office("crater 9, crater 9, channel 0 1 9 9, ferry 0 1 1, pass 48, sail 0 1");
            due(x.hoursLeft(0), 9);
            x.pass(1);
            due(x.hoursLeft(0), 8);
            x.pass(7);
            due(x.hoursLeft(0), 1);
        });
        says("Returns the number of hours, 0 if it is not at sea.", () -> {
            MoonFerryOffice x = office(AT_SEA);
            due(x.hoursLeft(0), 3);
            due(x.hoursLeft(1), 0);
            x.pass(3);
            due(x.hoursLeft(0), 0);
            x.pass(1);
            due(x.hoursLeft(0), 0);
        });
        says("Throws `IndexOutOfBoundsException` if there is no such ferry", () -> {
            MoonFerryOffice x = office(AT_SEA);
            for (int ferry : NO_FERRIES) {
                fails(INDEX, () -> x.hoursLeft(ferry));
            }
            fails(INDEX, () -> office("").hoursLeft(0));
        });
    }

    private static void isStranded() {
        section("Promise 20: isStranded");
        says("Returns whether a ferry is stranded.", () -> {
            MoonFerryOffice x = office("crater 2, ferry 0 2 1, ferry 0 3 1, ferry 0 9 1");
            due(x.isStranded(0), false);
            due(x.isStranded(1), true);
            x.pass(1);
            due(x.isStranded(1), false);
            x.pass(5);
            due(x.isStranded(2), true);
        });
        says("Returns whether it is stranded.", () -> {
            // At sea it is not stranded, whatever the depth of either crater.
            MoonFerryOffice x = office("crater 0, crater 0, channel 0 1 9 9, ferry 0 6 1, pass 6, sail 0 1, pass 6");
            due(x.isStranded(0), false);
            x.pass(2);
            due(x.isStranded(0), false);
            x.pass(1);
            due(x.isStranded(0), true);
            x.pass(3);
            due(x.isStranded(0), false);
        });
        says("Throws `IndexOutOfBoundsException` if there is no such ferry", () -> {
            MoonFerryOffice x = office(AT_SEA);
            for (int ferry : NO_FERRIES) {
                fails(INDEX, () -> x.isStranded(ferry));
            }
            fails(INDEX, () -> office("").isStranded(0));
        });
    }

    private static void loadOf() {
        section("Promise 21: loadOf");
        says("Returns the weight of the moons aboard a ferry.", () -> {
            MoonFerryOffice x = office(PAIR + ", moon 0 1 1 1, moon 0 1 39 1, moon 1 0 7 1, moon 0 1 5 1");
            due(x.loadOf(0), 0);
            Calls.make(x, "board 0 0, board 0 1, board 1 2");
            due(x.loadOf(0), 40);
            due(x.loadOf(1), 7);
        });
        says("Returns the weight.", () -> {
            MoonFerryOffice x = office(PAIR + ", moon 0 1 10 1, moon 0 1 20 1, load 0, sail 0 1");
            due(x.loadOf(0), 30);
            Calls.make(x, "pass 3, land 0");
            due(x.loadOf(0), 20);
            x.land(1);
            due(x.loadOf(0), 0);
            MoonFerryOffice y = office("crater 9, crater 9, ferry 0 1 99, moon 0 1 40 1, moon 0 1 40 1, moon 0 1 19 1, "
                    + "load 0");
            due(y.loadOf(0), 99);
        });
        says("Throws `IndexOutOfBoundsException` if there is no such ferry", () -> {
            MoonFerryOffice x = office(AT_SEA);
            for (int ferry : NO_FERRIES) {
                fails(INDEX, () -> x.loadOf(ferry));
            }
            fails(INDEX, () -> office("").loadOf(0));
        });
    }

    private static void earliestArrival() {
        section("Promise 22: earliestArrival");
        says("Returns the earliest hour in which a ferry could be in a crater, found with a queue of arrivals.", () -> {
            // Straight there it takes 9 hours, round about 3; but the round way's last channel opens at hour 6.
            MoonFerryOffice x = office("crater 9, crater 9, crater 9, channel 0 1 9 9, channel 0 2 1 9, channel 2 1 2 0, "
                    + "ferry 0 6 1, ferry 0 5 1, ferry 0 8 1");
            due(x.earliestArrival(0, 1), 8);
            due(x.earliestArrival(1, 1), 7);
            due(x.earliestArrival(2, 1), 9);
            due(x.earliestArrival(2, 2), 1);
        });
        says("Returns the hour;", () -> {
            MoonFerryOffice x = office("crater 0, crater 9, channel 0 1 9 9, ferry 0 6 1, pass 48, pass 7");
            due(x.earliestArrival(0, 1), 75);
            MoonFerryOffice y = office("crater 0, crater 9, channel 0 1 9 9, ferry 0 6 1, pass 48, pass 6");
            due(y.earliestArrival(0, 1), 63);
        });
        says("the present one if it is there.", () -> {
            MoonFerryOffice x = office("crater 0, crater 9, channel 0 1 9 9, ferry 0 6 1, pass 5");
            due(x.isStranded(0), true);
            due(x.earliestArrival(0, 0), 5);
            Calls.make(x, "pass 1, sail 0 1, pass 8");
            due(x.earliestArrival(0, 1), 15);
            x.pass(1);
            due(x.earliestArrival(0, 1), 15);
            x.pass(1);
            due(x.earliestArrival(0, 1), 16);
        });
        says("Throws `IndexOutOfBoundsException` if there is no such ferry, or no such crater", () -> {
            MoonFerryOffice x = office(AT_SEA);
            for (int ferry : NO_FERRIES) {
                fails(INDEX, () -> x.earliestArrival(ferry, 0));
            }
            for (int crater : new int[] {-1, 2, 6, MIN, MAX}) {
                fails(INDEX, () -> x.earliestArrival(0, crater));
                fails(INDEX, () -> x.earliestArrival(1, crater));
            }
            fails(INDEX, () -> office("crater 1").earliestArrival(0, 0));
        });
        says("Throws `NoSuchElementException` if it could not be there within the next 99 hours", () -> {
            MoonFerryOffice x = office("crater 9, crater 9, crater 5, crater 9, channel 0 1 1 5, channel 0 2 1 9, "
                    + "channel 2 3 1 9, ferry 0 12 1, ferry 0 11 1");
            fails(ELEMENT, () -> x.earliestArrival(0, 1));
            fails(ELEMENT, () -> x.earliestArrival(0, 3));
            due(x.earliestArrival(0, 2), 4);
            due(x.earliestArrival(1, 1), 7);
            due(x.earliestArrival(1, 3), 7);
            // From hour 43 five passages, each of which can begin in one hour of twelve only.
            due(office(FARTHEST).earliestArrival(0, 0), 111);
        });
    }

    private static void earliestArrivalByHours() {
        section("Promise 23: earliestArrivalByHours");
        says("Returns the same hour as earliestArrival(), found by going from hour to hour with all craters that could "
                + "be reached so far.", () -> {
            MoonFerryOffice x = office("crater 9, crater 9, crater 9, channel 0 1 9 9, channel 0 2 1 9, channel 2 1 2 0, "
                    + "ferry 0 6 1, ferry 0 5 1, ferry 0 8 1");
            due(x.earliestArrivalByHours(0, 1), 8);
            due(x.earliestArrivalByHours(1, 1), 7);
            due(x.earliestArrivalByHours(2, 1), 9);
            due(x.earliestArrivalByHours(2, 2), 1);
            due(office(FARTHEST).earliestArrivalByHours(0, 0), 111);
        });
        says("Returns the hour.", () -> {
            MoonFerryOffice x = office("crater 0, crater 9, channel 0 1 9 9, ferry 0 6 1, pass 5");
            due(x.earliestArrivalByHours(0, 0), 5);
            due(x.earliestArrivalByHours(0, 1), 15);
            Calls.make(x, "pass 1, sail 0 1, pass 8");
            due(x.earliestArrivalByHours(0, 1), 15);
            due(x.earliestArrivalByHours(0, 0), 24);
            x.pass(2);
            due(x.earliestArrivalByHours(0, 1), 16);
        });
        says("Throws `IndexOutOfBoundsException` if there is no such ferry, or no such crater", () -> {
            MoonFerryOffice x = office(AT_SEA);
            for (int ferry : NO_FERRIES) {
                fails(INDEX, () -> x.earliestArrivalByHours(ferry, 0));
            }
            for (int crater : new int[] {-1, 2, 6, MIN, MAX}) {
                fails(INDEX, () -> x.earliestArrivalByHours(0, crater));
                fails(INDEX, () -> x.earliestArrivalByHours(1, crater));
            }
            fails(INDEX, () -> office("crater 1").earliestArrivalByHours(0, 0));
        });
        says("Throws `NoSuchElementException` if it could not be there within the next 99 hours", () -> {
            MoonFerryOffice x = office("crater 9, crater 9, crater 5, crater 9, channel 0 1 1 5, channel 0 2 1 9, "
                    + "channel 2 3 1 9, ferry 0 12 1, ferry 0 11 1");
            fails(ELEMENT, () -> x.earliestArrivalByHours(0, 1));
            fails(ELEMENT, () -> x.earliestArrivalByHours(0, 3));
            due(x.earliestArrivalByHours(0, 2), 4);
            due(x.earliestArrivalByHours(1, 1), 7);
            due(x.earliestArrivalByHours(1, 3), 7);
        });
    }
}
