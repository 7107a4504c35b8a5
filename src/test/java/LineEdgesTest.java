/** The sentences of promises 54 to 58, with their edges. */
public final class LineEdgesTest extends Edges {
    private static final int[] NO_FERRIES = {-1, 2, 3, MIN, MAX};
    private static final String PORT = "crater 9, crater 9, channel 0 1 3 9, ferry 0 9 40, ferry 1 9 7, moon 0 1 10 4, "
            + "moon 0 1 20 1, moon 0 1 10 2, moon 1 0 7 7";

    public static void main(String[] args) {
        describeFerry();
        describeFerryThrows();
        lineAt();
        meanPhase();
        loadShare();
        isConsistent();
        end(5);
    }

    private static void dueLine(MoonFerryOffice x, int ferry, String line) {
        due(x.describeFerry(ferry), line.length());
        dueLine(x, line);
    }

    private static void dueLine(MoonFerryOffice x, String line) {
        StringBuilder got = new StringBuilder();
        for (int i = 0; i < line.length(); i++) {
            got.append(x.lineAt(i));
        }
        due(got.toString(), line);
        fails(INDEX, () -> x.lineAt(line.length()));
    }

    private static void describeFerry() {
        section("Promise 54: describeFerry");
        says("Writes a ferry to the line, replacing its previous content: its number, \"@\" and its crater, and \"!\" if "
                + "it is stranded;", () -> {
            MoonFerryOffice x = office("crater 3, crater 9, ferry 0 4 1, ferry 1 9 1, ferry 0 3 1");
            dueLine(x, 0, "0@0!");
            dueLine(x, 1, "1@1");
            dueLine(x, 2, "2@0");
            x.pass(1);
            dueLine(x, 0, "0@0");
            x.pass(11);
            dueLine(x, 0, "0@0!");
            // A shorter line leaves nothing of a longer one.
            MoonFerryOffice y = office(PORT + ", board 0 0, board 0 1");
            dueLine(y, 0, "0@0 0 1");
            dueLine(y, 1, "1@1");
            dueLine(y, 1, "1@1");
        });
        says("or, if it is at sea, its number, \">\" and the crater to which it sails, \"x\" and the hours that are left;",
                () -> {
            MoonFerryOffice x = office(PORT + ", sail 1 0");
            dueLine(x, 1, "1>0x3");
            x.pass(2);
            dueLine(x, 1, "1>0x1");
            x.pass(1);
            dueLine(x, 1, "1@0");
            // At sea there is no "!", also over a shallow target in a low tide.
            MoonFerryOffice y = office("crater 0, crater 0, channel 0 1 9 9, ferry 0 6 1, pass 6, sail 0 1, pass 6");
            dueLine(y, 0, "0>1x3");
            y.pass(3);
            dueLine(y, 0, "0@1!");
        });
        says("and for each moon aboard, in the ascending order of numbers, \" \" and the number of the moon.", () -> {
            MoonFerryOffice x = office(PORT + ", board 0 2, board 1 3, board 0 0");
            dueLine(x, 0, "0@0 0 2");
            dueLine(x, 1, "1@1 3");
            Calls.make(x, "board 0 1, sail 0 1");
            dueLine(x, 0, "0>1x3 0 1 2");
            MoonFerryOffice y = office("crater 0, crater 9, ferry 0 1 40, moon 0 1 1 1, moon 0 1 1 2, pass 1, board 0 1, "
                    + "pass 11");
            dueLine(y, 0, "0@0! 1");
            MoonFerryOffice z = office("crater 9, crater 9, ferry 0 1 10, moon 0 1 1 1, moon 0 1 1 1, moon 0 1 1 1, "
                    + "moon 0 1 1 1, moon 0 1 1 1, moon 0 1 1 1, moon 0 1 1 1, moon 0 1 1 1, moon 0 1 1 1, moon 0 1 1 1, "
                    + "load 0");
            dueLine(z, 0, "0@0 0 1 2 3 4 5 6 7 8 9");
        });
        says("An example is \"1>3x2 0 12\".", () -> {
            MoonFerryOffice x = office("crater 9, crater 9, crater 9, crater 9, channel 2 3 2 9, channel 2 0 1 9, "
                    + "ferry 2 9 99, ferry 2 9 99, moon 2 3 1 1");
            // Eleven moons come and go, so that the next one gets the number 12.
            for (int moon = 1; moon < 12; moon++) {
                Calls.make(x, "moon 2 0 1 1, board 0 " + moon + ", sail 0 0, pass 1, land " + moon + ", sail 0 2, pass 1");
            }
            Calls.make(x, "moon 2 3 1 1, board 1 12, board 1 0, sail 1 3");
            dueLine(x, 1, "1>3x2 0 12");
        });
        says("Returns the length of the line.", () -> {
            due(office(PORT).describeFerry(0), 3);
            due(office("crater 0, ferry 0 1 1").describeFerry(0), 4);
            due(office(PORT + ", sail 0 1").describeFerry(0), 5);
            due(office(PORT + ", board 0 0").describeFerry(0), 5);
        });
    }

    private static void describeFerryThrows() {
        says("Throws `IndexOutOfBoundsException` if there is no such ferry", () -> {
            MoonFerryOffice x = office(PORT);
            dueLine(x, 1, "1@1");
            for (int ferry : NO_FERRIES) {
                fails(INDEX, () -> x.describeFerry(ferry));
            }
            dueLine(x, "1@1");
            fails(INDEX, () -> office("").describeFerry(0));
        });
    }

    private static void lineAt() {
        section("Promise 55: lineAt");
        says("Returns a character of the line.", () -> {
            MoonFerryOffice x = office(PORT + ", board 0 1");
            dueLine(x, 0, "0@0 1");
            // The line stays as it was written, whatever happens then.
            Calls.make(x, "sail 0 1, pass 1, save, undo, undo, restore");
            dueLine(x, "0@0 1");
        });
        says("The line is initially empty.", () -> {
            fails(INDEX, () -> office("").lineAt(0));
            fails(INDEX, () -> office(PORT).lineAt(0));
        });
        says("Returns the character.", () -> {
            MoonFerryOffice x = office(PORT);
            x.describeFerry(1);
            due(x.lineAt(0), '1');
            due(x.lineAt(1), '@');
            due(x.lineAt(2), '1');
        });
        says("Throws `IndexOutOfBoundsException` if there is no such index", () -> {
            MoonFerryOffice x = office(PORT);
            for (int index : new int[] {-1, 0, 1, MIN, MAX}) {
                fails(INDEX, () -> x.lineAt(index));
            }
            x.describeFerry(0);
            for (int index : new int[] {-1, 3, 4, MIN, MAX}) {
                fails(INDEX, () -> x.lineAt(index));
            }
            due(x.lineAt(2), '0');
        });
    }

    private static void meanPhase() {
        section("Promise 56: meanPhase");
        says("Returns the mean phase of the moons: the sum divided by their number, both converted to double.", () -> {
            due(office(PORT).meanPhase(), 3.5);
            due(office("crater 9, crater 9, moon 0 1 1 1, moon 0 1 1 0, moon 0 1 1 0").meanPhase(), 1.0 / 3.0);
            due(office("crater 9, crater 9, moon 0 1 1 7, moon 0 1 1 7, moon 0 1 1 6").meanPhase(), 20.0 / 3.0);
            due(office(PORT + ", board 0 0, sail 0 1, pass 3, land 0").meanPhase(), 10.0 / 3.0);
        });
        says("Returns the mean.", () -> {
            due(office("crater 9, crater 9, moon 0 1 1 0").meanPhase(), 0.0);
            due(office("crater 9, crater 9, moon 0 1 1 7").meanPhase(), 7.0);
            due(office("crater 9, crater 9, moon 0 1 1 7, moon 0 1 1 6, pass 24").meanPhase(), 3.5);
        });
        says("Throws `ArithmeticException` if there are no moons", () -> {
            fails(ARITHMETIC, () -> office("").meanPhase());
            MoonFerryOffice x = office("crater 9, crater 9, channel 0 1 1 9, ferry 0 1 1, moon 0 1 1 1, board 0 0, "
                    + "sail 0 1, pass 1");
            due(x.meanPhase(), 1.0);
            x.land(0);
            fails(ARITHMETIC, x::meanPhase);
        });
    }

    private static void loadShare() {
        section("Promise 57: loadShare");
        says("Returns the share of the capacity of a ferry that is used: the weight of the moons aboard divided by the "
                + "capacity, both converted to float.", () -> {
            MoonFerryOffice x = office("crater 9, crater 9, ferry 0 9 99, moon 0 1 1 1, moon 0 1 39 1, board 0 0");
            dueShare(x, 0, 1f / 99f);
            x.board(0, 1);
            dueShare(x, 0, 40f / 99f);
            MoonFerryOffice y = office("crater 9, crater 9, ferry 0 9 3, moon 0 1 2 1, board 0 0");
            dueShare(y, 0, 2f / 3f);
        });
        says("Returns the share.", () -> {
            MoonFerryOffice x = office(PORT);
            dueShare(x, 0, 0f);
            Calls.make(x, "board 1 3");
            dueShare(x, 1, 1f);
            Calls.make(x, "sail 1 0");
            dueShare(x, 1, 1f);
        });
        says("Throws `IndexOutOfBoundsException` if there is no such ferry", () -> {
            MoonFerryOffice x = office(PORT);
            for (int ferry : NO_FERRIES) {
                fails(INDEX, () -> x.loadShare(ferry));
            }
            fails(INDEX, () -> office("").loadShare(0));
        });
    }

    private static void dueShare(MoonFerryOffice x, int ferry, float share) {
        due((Object) x.loadShare(ferry), (Object) share);
    }

    private static void dueConsistent(String calls) {
        due(office(calls).isConsistent(), true);
    }

    private static void isConsistent() {
        section("Promise 58: isConsistent");
        says("Checks the invariants: wayHours() and wayHoursByTable() agree for all pairs of craters, or there is no way "
                + "for both;", () -> {
            dueConsistent("crater 1, crater 1");
            dueConsistent("crater 1, crater 1, crater 1, channel 0 1 9 0, channel 1 2 9 0");
            dueConsistent("crater 1, crater 1, crater 1, channel 0 1 9 0, channel 1 2 1 0, channel 0 2 1 0");
        });
        says("both ways of finding the cheapest net agree, or there is none for both;", () -> {
            dueConsistent("crater 1, crater 1, crater 1, channel 1 2 5 0");
            dueConsistent("crater 1, crater 1, crater 1, channel 1 2 5 0, channel 0 2 4 0, channel 0 1 3 0");
        });
        says("earliestArrival() and earliestArrivalByHours() agree for all ferries and craters, or there is no such hour "
                + "for both;", () -> {
            String port = "crater 2, crater 0, crater 9, channel 0 1 9 3, channel 1 2 7 1, ferry 0 6 1, ferry 1 5 1, "
                    + "ferry 2 12 1";
            for (int hours = 1; hours <= 24; hours++) {
                dueConsistent(port + ", pass " + hours);
            }
            dueConsistent(port + ", pass 5, sail 0 1");
            dueConsistent(port + ", pass 5, sail 0 1, pass 8");
        });
        says("both ways of finding the best load agree for all ferries that are not at sea;", () -> {
            dueConsistent(PORT);
            dueConsistent(PORT + ", board 0 0");
            dueConsistent(PORT + ", load 0, load 1");
            dueConsistent(PORT + ", sail 0 1");
            dueConsistent("crater 0, crater 9, ferry 0 9 99, moon 0 1 40 1, moon 0 1 40 1, moon 0 1 40 4, moon 0 1 1 0");
        });
        says("and countBelow() and countBelowByAsking() agree for the fares of all moons.", () -> {
            dueConsistent(PORT + ", moon 0 1 1 4, moon 0 1 1 0, moon 1 0 1 7, moon 1 0 1 5, moon 1 0 1 6, moon 1 0 1 1");
            dueConsistent(PORT + ", removeChannel 0");
        });
        says("Returns whether all of them hold.", () -> {
            dueConsistent("");
            dueConsistent("crater 1");
            dueConsistent("crater 9, crater 9, crater 9, crater 9, crater 9, crater 0, channel 0 1 9 1, channel 0 2 8 2, "
                    + "channel 0 3 7 3, channel 0 4 6 4, channel 0 5 5 5, channel 1 2 4 6, channel 1 3 3 7, "
                    + "channel 1 4 2 8, channel 1 5 1 9, channel 2 3 1 0, ferry 0 9 50, ferry 1 12 99, ferry 5 6 99, "
                    + "moon 0 1 40 1, moon 0 2 11 2, moon 0 3 10 3, moon 0 4 9 4, moon 0 5 8 5, moon 0 1 7 6, "
                    + "moon 1 2 6 7, moon 5 0 5 1, moon 0 1 4 2, moon 0 2 3 3");
        });
    }
}
