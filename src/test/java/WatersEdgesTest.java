/** The sentences of promises 1 to 13, with their edges. */
public final class WatersEdgesTest extends Edges {
    private static final String SIX_CRATERS = "crater 0, crater 1, crater 2, crater 3, crater 4, crater 9";
    private static final String TEN_CHANNELS = "channel 0 1 1 0, channel 0 2 2 1, channel 0 3 3 2, channel 0 4 4 3, "
            + "channel 0 5 5 4, channel 1 2 6 5, channel 1 3 7 6, channel 1 4 8 7, channel 1 5 9 8, channel 2 3 1 9";
    private static final String FULL = SIX_CRATERS + ", " + TEN_CHANNELS;
    private static final String CHAIN = "crater 9, crater 9, crater 9, crater 9, channel 0 1 1 9, channel 2 1 2 8, "
            + "channel 2 3 3 7";

    public static void main(String[] args) {
        newObject();
        addCrater();
        addChannel();
        addChannelThrows();
        removeChannel();
        counts();
        depthOf();
        channelBetween();
        tide();
        wayHours();
        wayHoursByTable();
        cheapestNet();
        cheapestNetByGrowing();
        end(13);
    }

    private static void newObject() {
        section("Promise 1: A new object");
        says("Creates an office without craters, channels, ferries and moons at hour 0.", () -> {
            MoonFerryOffice x = new MoonFerryOffice();
            due(x.craterCount(), 0);
            due(x.channelCount(), 0);
            due(x.moonCount(), 0);
            due(x.hour(), 0);
            fails(INDEX, () -> x.depthOf(0));
            fails(INDEX, () -> x.removeChannel(0));
            fails(INDEX, () -> x.isAtSea(0));
            fails(INDEX, () -> x.moonAt(0));
            fails(ELEMENT, () -> x.phaseOf(0));
            fails(ELEMENT, () -> x.moonAtRank(0));
            fails(ELEMENT, () -> x.passageFerry(0));
            fails(STATE, x::undo);
            fails(STATE, x::restore);
            due(x.countBelow(MAX), 0);
            due(x.coins(), 0);
            due(x.strandingCount(), 0);
            due(x.isConsistent(), true);
        });
    }

    private static void addCrater() {
        section("Promise 2: addCrater");
        says("Adds a crater.", () -> {
            MoonFerryOffice x = office("crater 3");
            due(x.craterCount(), 1);
            due(x.depthOf(0), 3);
            fails(INDEX, () -> x.depthOf(1));
        });
        says("`depth`: the depth, 0 to 9", () -> {
            MoonFerryOffice x = office("");
            due(x.addCrater(0), 0);
            due(x.addCrater(9), 1);
            due(x.depthOf(0), 0);
            due(x.depthOf(1), 9);
        });
        says("Returns the number of the crater.", () -> {
            MoonFerryOffice x = office("");
            due(x.addCrater(5), 0);
            due(x.addCrater(5), 1);
            due(office("crater 1, crater 1, crater 1, crater 1, crater 1").addCrater(1), 5);
        });
        says("Throws `IllegalArgumentException` if the depth is out of range", () -> {
            MoonFerryOffice x = office("");
            for (int depth : new int[] {-1, 10, MIN, MAX}) {
                fails(ARGUMENT, () -> x.addCrater(depth));
            }
            due(x.craterCount(), 0);
        });
        says("Throws `IllegalStateException` if there are 6 craters", () -> {
            MoonFerryOffice x = office("crater 0, crater 1, crater 2, crater 3, crater 4");
            due(x.addCrater(9), 5);
            fails(STATE, () -> x.addCrater(0));
            fails(STATE, () -> x.addCrater(9));
            fails(ARGUMENT, () -> x.addCrater(10));
            due(x.craterCount(), 6);
            due(x.undo(), 5);
            due(x.addCrater(4), 5);
        });
    }

    private static void addChannel() {
        section("Promise 3: addChannel");
        says("Adds a channel between two craters.", () -> {
            MoonFerryOffice x = office("crater 1, crater 2, crater 3");
            x.addChannel(2, 0, 7, 0);
            due(x.channelCount(), 1);
            due(x.channelBetween(0, 2), 0);
            due(x.wayHours(0, 2), 7);
            fails(ELEMENT, () -> x.channelBetween(0, 1));
        });
        says("`hours`: the hours that a passage takes, 1 to 9", () -> {
            MoonFerryOffice x = office("crater 9, crater 9, crater 9, ferry 0 9 1, ferry 0 9 1");
            due(x.addChannel(0, 1, 1, 9), 0);
            due(x.addChannel(0, 2, 9, 9), 1);
            due(x.sail(0, 1), 1);
            due(x.sail(1, 2), 9);
        });
        says("`sill`: the sill, 0 to 9", () -> {
            MoonFerryOffice x = office("crater 9, crater 9, crater 9, ferry 0 1 1, ferry 0 9 1");
            due(x.addChannel(0, 1, 1, 0), 0);
            due(x.addChannel(0, 2, 1, 9), 1);
            fails(REFUSED, () -> x.sail(0, 1));
            due(x.refusalReason(), 3);
            due(x.sail(1, 2), 1);
        });
        says("Returns the number of the channel.", () -> {
            MoonFerryOffice x = office("crater 9, crater 9, crater 9");
            due(x.addChannel(0, 1, 1, 9), 0);
            due(x.addChannel(2, 1, 1, 9), 1);
            x.removeChannel(0);
            due(x.addChannel(0, 1, 1, 9), 1);
        });
    }

    private static void addChannelThrows() {
        says("Throws `IndexOutOfBoundsException` if there is no such crater, for either", () -> {
            MoonFerryOffice x = office("crater 9, crater 9");
            for (int crater : new int[] {-1, 2, 6, MIN, MAX}) {
                fails(INDEX, () -> x.addChannel(crater, 0, 1, 0));
                fails(INDEX, () -> x.addChannel(0, crater, 1, 0));
                fails(INDEX, () -> x.addChannel(crater, crater, 1, 0));
                fails(INDEX, () -> x.addChannel(1, crater, 0, -1));
            }
            fails(INDEX, () -> office("").addChannel(0, 1, 1, 0));
            fails(INDEX, () -> office(FULL).addChannel(6, 0, 10, 0));
            due(x.channelCount(), 0);
            due(x.addChannel(1, 0, 1, 0), 0);
        });
        says("Throws `IllegalArgumentException` if both craters are the same, or the hours or the sill are out of "
                + "range", () -> {
            MoonFerryOffice x = office("crater 9, crater 9");
            fails(ARGUMENT, () -> x.addChannel(0, 0, 1, 0));
            fails(ARGUMENT, () -> x.addChannel(1, 1, 1, 0));
            for (int hours : new int[] {0, 10, -1, MIN, MAX}) {
                fails(ARGUMENT, () -> x.addChannel(0, 1, hours, 0));
            }
            for (int sill : new int[] {-1, 10, MIN, MAX}) {
                fails(ARGUMENT, () -> x.addChannel(0, 1, 1, sill));
            }
            due(x.channelCount(), 0);
            MoonFerryOffice y = office(FULL);
            fails(ARGUMENT, () -> y.addChannel(4, 4, 1, 0));
            fails(ARGUMENT, () -> y.addChannel(4, 5, 0, 0));
            fails(ARGUMENT, () -> y.addChannel(0, 1, 1, 10));
        });
        says("Throws `IllegalStateException` if there are 10 channels, or there is a channel between these craters",
                () -> {
            MoonFerryOffice x = office(FULL);
            fails(STATE, () -> x.addChannel(4, 5, 1, 0));
            fails(STATE, () -> x.addChannel(0, 1, 1, 0));
            due(x.removeChannel(9), 9);
            fails(STATE, () -> x.addChannel(0, 1, 1, 0));
            fails(STATE, () -> x.addChannel(5, 1, 1, 0));
            due(x.addChannel(4, 5, 1, 0), 9);
            fails(STATE, () -> x.addChannel(2, 3, 1, 0));
        });
    }

    private static void removeChannel() {
        section("Promise 4: removeChannel");
        says("Removes a channel.", () -> {
            MoonFerryOffice x = office(CHAIN);
            x.removeChannel(2);
            fails(ELEMENT, () -> x.channelBetween(2, 3));
            fails(ELEMENT, () -> x.wayHours(2, 3));
            due(x.channelBetween(1, 2), 1);
            MoonFerryOffice y = office("crater 9, crater 9, channel 0 1 1 9, removeChannel 0");
            due(y.channelCount(), 0);
            fails(INDEX, () -> y.removeChannel(0));
        });
        says("The numbers of the later channels decrease by 1.", () -> {
            MoonFerryOffice x = office(CHAIN);
            x.removeChannel(0);
            due(x.channelBetween(1, 2), 0);
            due(x.channelBetween(2, 3), 1);
            due(x.wayHours(1, 3), 5);
            MoonFerryOffice y = office(CHAIN + ", ferry 2 8 1");
            y.removeChannel(1);
            due(y.channelBetween(0, 1), 0);
            due(y.channelBetween(2, 3), 1);
            fails(REFUSED, () -> y.sail(0, 3));
            // A ferry that is in a later channel stays in it.
            MoonFerryOffice w = office(CHAIN + ", ferry 2 1 1, pass 1, sail 0 3, removeChannel 0");
            due(w.targetOf(0), 3);
            due(w.hoursLeft(0), 3);
            due(w.earliestArrival(0, 1), 9);
            fails(STATE, () -> w.removeChannel(1));
            due(w.removeChannel(0), 1);
            fails(STATE, () -> w.removeChannel(0));
            w.pass(3);
            due(w.craterOf(0), 3);
            due(w.removeChannel(0), 0);
            MoonFerryOffice z = office(FULL);
            z.removeChannel(0);
            due(z.channelBetween(0, 2), 0);
            due(z.channelBetween(2, 3), 8);
        });
        says("Returns the number of channels after the call.", () -> {
            MoonFerryOffice x = office(CHAIN);
            due(x.removeChannel(1), 2);
            due(x.removeChannel(1), 1);
            due(x.removeChannel(0), 0);
            due(office(FULL).removeChannel(9), 9);
        });
        says("Throws `IndexOutOfBoundsException` if there is no such channel", () -> {
            MoonFerryOffice x = office(CHAIN + ", ferry 0 1 1, sail 0 1");
            for (int channel : new int[] {-1, 3, 10, MIN, MAX}) {
                fails(INDEX, () -> x.removeChannel(channel));
            }
            due(x.channelCount(), 3);
            fails(INDEX, () -> office("").removeChannel(0));
            fails(INDEX, () -> office(FULL).removeChannel(10));
        });
        says("Throws `IllegalStateException` if a ferry is in the channel", () -> {
            MoonFerryOffice x = office(CHAIN + ", ferry 0 1 1, ferry 1 1 1, ferry 2 1 1, sail 1 2, sail 2 1");
            fails(STATE, () -> x.removeChannel(1));
            due(x.removeChannel(2), 2);
            due(x.removeChannel(0), 1);
            fails(STATE, () -> x.removeChannel(0));
            x.pass(1);
            fails(STATE, () -> x.removeChannel(0));
            x.pass(1);
            due(x.removeChannel(0), 0);
        });
    }

    private static void counts() {
        section("Promise 5: craterCount");
        says("Returns the number of craters.", () -> {
            due(office("").craterCount(), 0);
            due(office("crater 1").craterCount(), 1);
            due(office(SIX_CRATERS).craterCount(), 6);
        });
        section("Promise 6: channelCount");
        says("Returns the number of channels.", () -> {
            due(office("").channelCount(), 0);
            due(office(SIX_CRATERS).channelCount(), 0);
            due(office(CHAIN).channelCount(), 3);
            due(office(FULL).channelCount(), 10);
            due(office(FULL + ", removeChannel 3").channelCount(), 9);
        });
    }

    private static void depthOf() {
        section("Promise 7: depthOf");
        says("Returns the depth of a crater.", () -> {
            MoonFerryOffice x = office(SIX_CRATERS);
            due(x.depthOf(0), 0);
            due(x.depthOf(2), 2);
            due(x.depthOf(5), 9);
        });
        says("Returns the depth.", () -> due(office("crater 9, pass 6").depthOf(0), 9));
        says("Throws `IndexOutOfBoundsException` if there is no such crater", () -> {
            MoonFerryOffice x = office("crater 4, crater 5");
            for (int crater : new int[] {-1, 2, MIN, MAX}) {
                fails(INDEX, () -> x.depthOf(crater));
            }
            fails(INDEX, () -> office("").depthOf(0));
            fails(INDEX, () -> office(SIX_CRATERS).depthOf(6));
        });
    }

    private static void channelBetween() {
        section("Promise 8: channelBetween");
        says("Returns the channel between two craters.", () -> {
            MoonFerryOffice x = office(CHAIN);
            due(x.channelBetween(2, 1), 1);
            due(x.channelBetween(1, 2), 1);
        });
        says("Returns the number of the channel.", () -> {
            MoonFerryOffice x = office(FULL);
            due(x.channelBetween(0, 1), 0);
            due(x.channelBetween(5, 0), 4);
            due(x.channelBetween(3, 2), 9);
        });
        says("Throws `IndexOutOfBoundsException` if there is no such crater, for either", () -> {
            MoonFerryOffice x = office(CHAIN);
            for (int crater : new int[] {-1, 4, MIN, MAX}) {
                fails(INDEX, () -> x.channelBetween(crater, 0));
                fails(INDEX, () -> x.channelBetween(0, crater));
                fails(INDEX, () -> x.channelBetween(crater, crater));
            }
            fails(INDEX, () -> office(FULL).channelBetween(6, 0));
            fails(INDEX, () -> office("").channelBetween(0, 0));
        });
        says("Throws `NoSuchElementException` if there is no channel between them", () -> {
            MoonFerryOffice x = office(CHAIN);
            fails(ELEMENT, () -> x.channelBetween(0, 2));
            fails(ELEMENT, () -> x.channelBetween(3, 0));
            for (int crater = 0; crater < 4; crater++) {
                int same = crater;
                fails(ELEMENT, () -> x.channelBetween(same, same));
            }
            fails(ELEMENT, () -> office("crater 1").channelBetween(0, 0));
        });
    }

    private static void tide() {
        section("Promise 9: tide");
        says("Returns the tide in an hour, by a formula.", () -> {
            MoonFerryOffice x = office("");
            int[] tides = {0, 1, 2, 3, 4, 5, 6, 5, 4, 3, 2, 1};
            for (int hour = 0; hour < 48; hour++) {
                due(x.tide(hour), tides[hour % 12]);
            }
        });
        says("`hour`: the hour, 0 to 9999", () -> {
            MoonFerryOffice x = office("");
            due(x.tide(0), 0);
            due(x.tide(9999), 3);
        });
        says("Returns the tide.", () -> {
            MoonFerryOffice x = office("pass 5");
            due(x.tide(6), 6);
            due(x.tide(9998), 2);
        });
        says("Throws `IllegalArgumentException` if the hour is out of range", () -> {
            MoonFerryOffice x = office("");
            for (int hour : new int[] {-1, 10000, MIN, MAX}) {
                fails(ARGUMENT, () -> x.tide(hour));
            }
        });
    }

    private static void wayHours() {
        section("Promise 10: wayHours");
        says("Returns the least number of hours of a way between two craters, found with a queue of craters by hours.",
                () -> {
            MoonFerryOffice x = office("crater 0, crater 0, crater 0, crater 0, channel 0 3 9 0, channel 0 1 2 0, "
                    + "channel 2 1 2 0, channel 2 3 2 0");
            due(x.wayHours(0, 3), 6);
            due(x.wayHours(3, 0), 6);
            due(x.wayHours(0, 2), 4);
            due(x.wayHours(1, 3), 4);
            MoonFerryOffice y = office(SIX_CRATERS + ", channel 0 5 9 0, channel 0 1 9 0, channel 1 5 1 0, "
                    + "channel 5 4 9 0, channel 4 3 9 0, channel 3 2 9 0");
            due(y.wayHours(0, 5), 9);
            due(y.wayHours(0, 2), 36);
            due(y.wayHours(2, 1), 28);
        });
        says("Returns the number of hours, 0 if both craters are the same.", () -> {
            MoonFerryOffice x = office(CHAIN + ", crater 0");
            for (int crater = 0; crater < 5; crater++) {
                due(x.wayHours(crater, crater), 0);
            }
            due(x.wayHours(0, 1), 1);
        });
        says("Throws `IndexOutOfBoundsException` if there is no such crater, for either", () -> {
            MoonFerryOffice x = office(CHAIN);
            for (int crater : new int[] {-1, 4, MIN, MAX}) {
                fails(INDEX, () -> x.wayHours(crater, 0));
                fails(INDEX, () -> x.wayHours(0, crater));
                fails(INDEX, () -> x.wayHours(crater, crater));
            }
            fails(INDEX, () -> office("").wayHours(0, 0));
            fails(INDEX, () -> office(FULL).wayHours(0, 6));
        });
        says("Throws `NoSuchElementException` if there is no way", () -> {
            MoonFerryOffice x = office(CHAIN + ", crater 0");
            fails(ELEMENT, () -> x.wayHours(0, 4));
            fails(ELEMENT, () -> x.wayHours(4, 3));
            x.removeChannel(1);
            fails(ELEMENT, () -> x.wayHours(0, 3));
            due(x.wayHours(2, 3), 3);
        });
    }

    private static void wayHoursByTable() {
        section("Promise 11: wayHoursByTable");
        says("Returns the same number as wayHours(), found with a table of all pairs of craters.", () -> {
            MoonFerryOffice x = office(FULL + ", removeChannel 4, removeChannel 7");
            for (int one = 0; one < 6; one++) {
                for (int other = 0; other < 6; other++) {
                    due(Calls.answer(x, "wayHoursByTable " + one + " " + other),
                            Calls.answer(x, "wayHours " + one + " " + other));
                }
            }
        });
        says("Returns the number of hours.", () -> {
            MoonFerryOffice x = office(CHAIN);
            due(x.wayHoursByTable(0, 3), 6);
            due(x.wayHoursByTable(3, 0), 6);
            due(x.wayHoursByTable(2, 2), 0);
            due(office("crater 1").wayHoursByTable(0, 0), 0);
            x.addChannel(0, 3, 5, 0);
            due(x.wayHoursByTable(0, 3), 5);
        });
        says("Throws `IndexOutOfBoundsException` if there is no such crater, for either", () -> {
            MoonFerryOffice x = office(CHAIN);
            for (int crater : new int[] {-1, 4, MIN, MAX}) {
                fails(INDEX, () -> x.wayHoursByTable(crater, 0));
                fails(INDEX, () -> x.wayHoursByTable(0, crater));
                fails(INDEX, () -> x.wayHoursByTable(crater, crater));
            }
            fails(INDEX, () -> office("").wayHoursByTable(0, 0));
            fails(INDEX, () -> office(FULL).wayHoursByTable(6, 6));
        });
        says("Throws `NoSuchElementException` if there is no way", () -> {
            MoonFerryOffice x = office(CHAIN + ", crater 0");
            fails(ELEMENT, () -> x.wayHoursByTable(0, 4));
            fails(ELEMENT, () -> x.wayHoursByTable(4, 3));
            x.removeChannel(1);
            fails(ELEMENT, () -> x.wayHoursByTable(0, 3));
            due(x.wayHoursByTable(2, 3), 3);
        });
    }

    private static void cheapestNet() {
        section("Promise 12: cheapestNet");
        says("Returns the least sum of the hours of channels that connect all craters, found by taking channels in "
                + "the order of their hours.", () -> {
            due(office("crater 9, crater 9, crater 9, channel 0 1 9 0, channel 1 2 8 0, channel 0 2 7 0").cheapestNet(),
                    15);
            // The two shortest channels of each ring of three are taken, and one of the two between the rings.
            due(office(SIX_CRATERS + ", channel 0 1 3 0, channel 1 2 2 0, channel 2 0 1 0, channel 3 4 6 0, "
                    + "channel 4 5 5 0, channel 5 3 4 0, channel 0 3 9 0, channel 2 5 8 0").cheapestNet(), 20);
            due(office(FULL).cheapestNet(), 13);
            due(office(FULL + ", removeChannel 4").cheapestNet(), 17);
            // What was asked before makes no difference.
            MoonFerryOffice x = office("crater 9, crater 9, crater 9, crater 9, channel 3 0 9 0, channel 1 0 1 0, "
                    + "channel 2 1 2 0");
            due(x.cheapestNet(), 12);
            due(x.cheapestNet(), 12);
            x.addChannel(3, 2, 3, 0);
            due(x.cheapestNet(), 6);
            due(x.cheapestNet(), 6);
        });
        says("Returns the number of hours, 0 for fewer than 2 craters.", () -> {
            due(office("").cheapestNet(), 0);
            due(office("crater 5").cheapestNet(), 0);
            due(office("crater 5, crater 5, channel 1 0 9 0").cheapestNet(), 9);
            due(office("crater 5, crater 5, channel 1 0 1 0").cheapestNet(), 1);
            due(office(SIX_CRATERS + ", channel 0 1 9 0, channel 1 2 9 0, channel 2 3 9 0, channel 3 4 9 0, "
                    + "channel 4 5 9 0").cheapestNet(), 45);
        });
        says("Throws `NoSuchElementException` if there is no way between two craters", () -> {
            fails(ELEMENT, () -> office("crater 5, crater 5").cheapestNet());
            fails(ELEMENT, () -> office(CHAIN + ", removeChannel 1").cheapestNet());
            fails(ELEMENT, () -> office(CHAIN + ", crater 0").cheapestNet());
            // Four craters with all their six channels, and two craters apart from them.
            fails(ELEMENT, () -> office(SIX_CRATERS + ", channel 0 1 1 0, channel 0 2 1 0, channel 0 3 1 0, "
                    + "channel 1 2 1 0, channel 1 3 1 0, channel 2 3 1 0, channel 4 5 1 0").cheapestNet());
        });
    }

    private static void cheapestNetByGrowing() {
        section("Promise 13: cheapestNetByGrowing");
        says("Returns the same sum as cheapestNet(), found by growing a net from crater 0.", () -> {
            due(office("").cheapestNetByGrowing(), 0);
            due(office("crater 5").cheapestNetByGrowing(), 0);
            due(office(FULL).cheapestNetByGrowing(), 13);
            due(office(FULL + ", removeChannel 4").cheapestNetByGrowing(), 17);
            due(office(SIX_CRATERS + ", channel 0 1 3 0, channel 1 2 2 0, channel 2 0 1 0, channel 3 4 6 0, "
                    + "channel 4 5 5 0, channel 5 3 4 0, channel 0 3 9 0, channel 2 5 8 0").cheapestNetByGrowing(), 20);
        });
        says("Returns the number of hours.", () -> {
            due(office("crater 9, crater 9, crater 9, channel 0 1 9 0, channel 1 2 8 0, channel 0 2 7 0")
                    .cheapestNetByGrowing(), 15);
            due(office("crater 5, crater 5, channel 1 0 9 0").cheapestNetByGrowing(), 9);
            due(office(SIX_CRATERS + ", channel 0 1 9 0, channel 1 2 9 0, channel 2 3 9 0, channel 3 4 9 0, "
                    + "channel 4 5 9 0").cheapestNetByGrowing(), 45);
        });
        says("Throws `NoSuchElementException` if there is no way between two craters", () -> {
            fails(ELEMENT, () -> office("crater 5, crater 5").cheapestNetByGrowing());
            fails(ELEMENT, () -> office(CHAIN + ", removeChannel 1").cheapestNetByGrowing());
            fails(ELEMENT, () -> office(CHAIN + ", crater 0").cheapestNetByGrowing());
            fails(ELEMENT, () -> office(SIX_CRATERS + ", channel 0 1 1 0, channel 0 2 1 0, channel 0 3 1 0, "
                    + "channel 1 2 1 0, channel 1 3 1 0, channel 2 3 1 0, channel 4 5 1 0").cheapestNetByGrowing());
        });
    }
}
