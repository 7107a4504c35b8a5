/** The sentences of the section "Terms", but for commands, changes and exceptions, with their edges. */
public final class TermsEdgesTest extends Edges {
    private static final String SIX_CRATERS = "crater 9, crater 9, crater 9, crater 9, crater 9, crater 9";
    private static final String NINE_CHANNELS = "channel 0 1 1 9, channel 0 2 1 9, channel 0 3 1 9, "
            + "channel 0 4 1 9, channel 0 5 1 9, channel 1 2 1 9, channel 1 3 1 9, channel 1 4 1 9, channel 1 5 1 9";
    private static final String TWO = "crater 9, crater 9, channel 0 1 3 9, ferry 0 9 40";

    public static void main(String[] args) {
        section("Terms: Craters and channels");
        craters();
        channels();
        section("Terms: Tides");
        tides();
        section("Terms: Ferries");
        ferries();
        passages();
        section("Terms: Earliest hours");
        earliestHours();
        section("Terms: Moons");
        moons();
        phases();
        fares();
        section("Terms: Loads");
        loads();
        section("Terms: Refusals");
        sailingRefused();
        boardingRefused();
        section("Terms: Hours");
        hours();
        section("Terms: Rescues");
        rescues();
        end(9);
    }

    private static void craters() {
        says("There are at most 6 craters and at most 10 channels, each numbered from 0.", () -> {
            MoonFerryOffice x = office("");
            for (int i = 0; i < 6; i++) {
                due(x.addCrater(9), i);
            }
            fails(STATE, () -> x.addCrater(9));
            due(x.craterCount(), 6);
            MoonFerryOffice y = office(SIX_CRATERS);
            due(y.addChannel(4, 5, 1, 9), 0);
            due(y.addChannel(2, 3, 1, 9), 1);
            MoonFerryOffice z = office(SIX_CRATERS + ", " + NINE_CHANNELS);
            due(z.addChannel(4, 5, 1, 9), 9);
            fails(STATE, () -> z.addChannel(2, 3, 1, 9));
            due(z.channelCount(), 10);
            due(z.removeChannel(0), 9);
            due(z.addChannel(2, 3, 1, 9), 9);
        });
        says("A crater has a depth.", () -> {
            MoonFerryOffice x = office("crater 0, crater 9, crater 4");
            due(x.depthOf(0), 0);
            due(x.depthOf(1), 9);
            due(x.depthOf(2), 4);
        });
    }

    private static void channels() {
        says("A channel lies between two different craters, can be used in both directions, and has hours, "
                + "which a passage through it takes, and a sill.", () -> {
            MoonFerryOffice x = office("crater 9, crater 9, ferry 0 9 1, ferry 1 9 1, ferry 0 10 1");
            fails(ARGUMENT, () -> x.addChannel(0, 0, 1, 9));
            fails(ARGUMENT, () -> x.addChannel(1, 1, 1, 9));
            x.addChannel(0, 1, 9, 9);
            due(x.sail(0, 1), 9);
            due(x.sail(1, 0), 9);
            due(x.pass(1), 0);
            due(x.sail(2, 1), 10);
            MoonFerryOffice y = office("crater 9, crater 9, channel 0 1 1 0, ferry 0 1 1");
            fails(REFUSED, () -> y.sail(0, 1));
            y.pass(1);
            due(y.sail(0, 1), 2);
        });
        says("There is at most one channel between two craters.", () -> {
            MoonFerryOffice x = office("crater 9, crater 9, crater 9, channel 0 1 1 9");
            fails(STATE, () -> x.addChannel(0, 1, 2, 8));
            fails(STATE, () -> x.addChannel(1, 0, 2, 8));
            due(x.channelCount(), 1);
            due(x.wayHours(0, 1), 1);
            due(x.addChannel(1, 2, 1, 9), 1);
            due(x.removeChannel(0), 1);
            due(x.addChannel(1, 0, 2, 8), 1);
        });
        says("A way between two craters is a sequence of channels, each of which begins where the one before it "
                + "ends;", () -> {
            MoonFerryOffice x = office(SIX_CRATERS + ", channel 0 1 1 0, channel 2 1 2 0, channel 3 4 4 0");
            due(x.wayHours(0, 2), 3);
            due(x.wayHours(2, 0), 3);
            due(x.wayHours(4, 3), 4);
            fails(ELEMENT, () -> x.wayHours(0, 3));
            fails(ELEMENT, () -> x.wayHours(2, 4));
            fails(ELEMENT, () -> x.wayHours(0, 5));
            x.addChannel(2, 3, 8, 0);
            due(x.wayHours(0, 4), 15);
        });
        says("its hours are the sum of the hours of its channels.", () -> {
            MoonFerryOffice x = office(SIX_CRATERS + ", channel 0 1 9 0, channel 1 2 9 0, channel 2 3 9 0, "
                    + "channel 3 4 9 0, channel 4 5 9 0");
            due(x.wayHours(0, 5), 45);
            due(x.wayHoursByTable(5, 0), 45);
            due(x.wayHours(1, 2), 9);
        });
    }

    private static void tides() {
        says("The number of hours that have passed is the present hour, initially 0.", () -> {
            MoonFerryOffice x = office("");
            due(x.hour(), 0);
            x.pass(1);
            due(x.hour(), 1);
            x.pass(48);
            due(x.hour(), 49);
        });
        says("Let t be an hour modulo 12.", () -> {
            MoonFerryOffice x = office("");
            due(x.tide(0), 0);
            due(x.tide(11), 1);
            due(x.tide(12), 0);
            due(x.tide(13), 1);
            due(x.tide(9996), 0);
            due(x.tide(9999), 3);
        });
        says("The tide in this hour is t if t is at most 6, and 12 - t otherwise.", () -> {
            MoonFerryOffice x = office("");
            due(x.tide(5), 5);
            due(x.tide(6), 6);
            due(x.tide(7), 5);
            due(x.tide(18), 6);
            due(x.tide(19), 5);
            MoonFerryOffice y = office("crater 0, ferry 0 6 1");
            for (int i = 0; i < 208; i++) {
                y.pass(48);
            }
            // The tide has no last hour: it goes on behind hour 9999.
            y.pass(18);
            due(y.hour(), 10002);
            due(y.isStranded(0), false);
            y.pass(1);
            due(y.isStranded(0), true);
        });
    }

    private static void ferries() {
        says("There are at most 3 ferries, numbered from 0.", () -> {
            MoonFerryOffice x = office("crater 9");
            due(x.addFerry(0, 1, 1), 0);
            due(x.addFerry(0, 1, 1), 1);
            due(x.addFerry(0, 1, 1), 2);
            fails(STATE, () -> x.addFerry(0, 1, 1));
            fails(INDEX, () -> x.isAtSea(3));
        });
        says("A ferry is in a crater or at sea.", () -> {
            MoonFerryOffice x = office(TWO);
            due(x.isAtSea(0), false);
            due(x.craterOf(0), 0);
            fails(STATE, () -> x.targetOf(0));
            x.sail(0, 1);
            due(x.isAtSea(0), true);
            due(x.targetOf(0), 1);
            fails(STATE, () -> x.craterOf(0));
            x.pass(3);
            due(x.isAtSea(0), false);
            due(x.craterOf(0), 1);
        });
        says("A ferry in a crater is stranded if the depth of the crater plus the tide is less than the draught of "
                + "the ferry.", () -> {
            MoonFerryOffice x = office("crater 3, ferry 0 3 1, ferry 0 4 1, ferry 0 9 1");
            boolean[] afloat = {true, false, false};
            dueAfloat(x, afloat);
            x.pass(1);
            dueAfloat(x, true, true, false);
            x.pass(4);
            dueAfloat(x, true, true, false);
            x.pass(1);
            dueAfloat(x, true, true, true);
            x.pass(1);
            dueAfloat(x, true, true, false);
            x.pass(4);
            dueAfloat(x, true, true, false);
            x.pass(1);
            dueAfloat(x, true, false, false);
        });
        says("A channel is open for a ferry if its sill plus the tide is at least the draught.", () -> {
            MoonFerryOffice x = office("crater 9, crater 9, channel 0 1 1 3, ferry 0 4 1, ferry 0 3 1, ferry 0 9 1");
            fails(REFUSED, () -> x.sail(0, 1));
            due(x.sail(1, 1), 1);
            x.pass(1);
            due(x.sail(0, 1), 2);
            x.pass(4);
            fails(REFUSED, () -> x.sail(2, 1));
            x.pass(1);
            due(x.sail(2, 1), 7);
            x.pass(5);
            due(x.sail(0, 0), 12);
            x.pass(1);
            fails(REFUSED, () -> x.sail(0, 1));
        });
    }

    private static void dueAfloat(MoonFerryOffice x, boolean... afloat) {
        for (int ferry = 0; ferry < afloat.length; ferry++) {
            due(!x.isStranded(ferry), afloat[ferry]);
        }
    }

    private static void passages() {
        says("A ferry that begins a passage in hour h through a channel with n hours is at sea in this channel "
                + "until it arrives in hour h + n.", () -> {
            MoonFerryOffice x = office("crater 9, crater 9, crater 9, channel 0 1 9 9, channel 0 2 1 9, ferry 0 1 1, "
                    + "ferry 0 1 1, pass 5");
            due(x.sail(0, 1), 14);
            due(x.sail(1, 2), 6);
            fails(STATE, () -> x.removeChannel(0));
            fails(STATE, () -> x.removeChannel(1));
            due(x.pass(1), 1);
            due(x.isAtSea(1), false);
            due(x.removeChannel(1), 1);
            due(x.pass(7), 0);
            due(x.isAtSea(0), true);
            fails(STATE, () -> x.removeChannel(0));
            due(x.pass(1), 1);
            due(x.isAtSea(0), false);
            due(x.passageHour(0), 14);
            due(x.removeChannel(0), 0);
        });
        says("It can arrive in any tide.", () -> {
            MoonFerryOffice x = office("crater 9, crater 0, channel 0 1 6 6, ferry 0 12 1, pass 6, sail 0 1, pass 6");
            due(x.craterOf(0), 1);
            due(x.isStranded(0), true);
            due(x.passageHour(0), 12);
        });
    }

    private static void arrivesIn(MoonFerryOffice x, int crater, int hour) {
        due(x.earliestArrival(0, crater), hour);
        due(x.earliestArrivalByHours(0, crater), hour);
    }

    private static void arrivesNever(MoonFerryOffice x, int crater) {
        fails(ELEMENT, () -> x.earliestArrival(0, crater));
        fails(ELEMENT, () -> x.earliestArrivalByHours(0, crater));
    }

    private static void earliestHours() {
        says("For the earliest hour in which a ferry could be in a crater, it begins a passage only in an hour in "
                + "which it is in a crater, not stranded there, and the channel is open for it;", () -> {
            arrivesIn(office("crater 2, crater 0, channel 0 1 4 9, ferry 0 5 1"), 1, 7);
            arrivesIn(office("crater 9, crater 0, channel 0 1 4 2, ferry 0 5 1"), 1, 7);
            arrivesIn(office("crater 3, crater 0, channel 0 1 4 4, ferry 0 5 1"), 1, 6);
            arrivesIn(office("crater 4, crater 0, channel 0 1 4 3, ferry 0 5 1"), 1, 6);
            arrivesIn(office("crater 2, crater 0, channel 0 1 4 9, ferry 0 5 1, pass 9"), 1, 13);
            arrivesIn(office("crater 2, crater 0, channel 0 1 4 9, ferry 0 5 1, pass 10"), 1, 19);
            arrivesIn(office("crater 6, crater 0, channel 0 1 1 6, ferry 0 12 1"), 1, 7);
            arrivesNever(office("crater 5, crater 0, channel 0 1 1 9, ferry 0 12 1"), 1);
            arrivesNever(office("crater 9, crater 0, channel 0 1 1 5, ferry 0 12 1"), 1);
            MoonFerryOffice x = office("crater 9, crater 2, crater 0, channel 0 1 3 9, channel 1 2 1 9, ferry 0 5 1");
            arrivesIn(x, 1, 3);
            arrivesIn(x, 2, 4);
        });
        says("it can wait in craters as long as it likes.", () -> {
            arrivesIn(office("crater 0, crater 0, channel 0 1 1 9, ferry 0 6 1, pass 7"), 1, 19);
            MoonFerryOffice x = office("crater 9, crater 0, crater 9, channel 0 1 7 9, channel 1 2 1 9, ferry 0 6 1");
            arrivesIn(x, 1, 7);
            arrivesIn(x, 2, 19);
            MoonFerryOffice y = office("crater 9, crater 9, crater 9, channel 0 1 7 9, channel 1 2 1 0, ferry 0 6 1");
            arrivesIn(y, 2, 19);
        });
        says("A ferry at sea first arrives in the crater to which it is sailing.", () -> {
            MoonFerryOffice x = office("crater 9, crater 9, crater 9, crater 9, channel 0 1 9 9, channel 0 2 1 9, "
                    + "channel 1 2 9 9, ferry 0 9 1, pass 1, sail 0 1, pass 2");
            arrivesIn(x, 1, 10);
            arrivesIn(x, 0, 19);
            arrivesIn(x, 2, 19);
            arrivesNever(x, 3);
        });
    }

    private static void moons() {
        says("At most 10 moons are present.", () -> {
            MoonFerryOffice x = office(TWO + ", moon 0 1 1 1, board 0 0, sail 0 1, pass 3");
            for (int i = 1; i < 10; i++) {
                due(x.addMoon(1, 0, 1, 1), i);
            }
            due(x.moonCount(), 10);
            fails(STATE, () -> x.addMoon(1, 0, 1, 1));
            x.land(0);
            due(x.moonCount(), 9);
            due(x.addMoon(1, 0, 1, 1), 10);
            fails(STATE, () -> x.addMoon(1, 0, 1, 1));
        });
        says("Each moon gets a number, which is 0 for the first one and 1 greater than that of the moon before for "
                + "each other one;", () -> {
            MoonFerryOffice x = office("crater 9, crater 9");
            due(x.addMoon(0, 1, 40, 0), 0);
            due(x.addMoon(1, 0, 1, 7), 1);
            due(x.addMoon(0, 1, 3, 3), 2);
        });
        says("numbers are not given again.", () -> {
            MoonFerryOffice x = office(TWO + ", moon 0 1 1 1, board 0 0, sail 0 1, pass 3, land 0");
            due(x.moonCount(), 0);
            due(x.addMoon(0, 1, 1, 1), 1);
            fails(ELEMENT, () -> x.phaseOf(0));
        });
        says("A moon waits in a crater or is aboard a ferry.", () -> {
            MoonFerryOffice x = office(TWO + ", moon 0 1 1 1");
            due(x.shoreOf(0), 0);
            fails(STATE, () -> x.ferryOf(0));
            x.board(0, 0);
            due(x.ferryOf(0), 0);
            fails(STATE, () -> x.shoreOf(0));
            x.land(0);
            due(x.shoreOf(0), 0);
            fails(STATE, () -> x.ferryOf(0));
        });
        says("The weight of the moons aboard a ferry is never greater than its capacity.", () -> {
            MoonFerryOffice x = office("crater 9, crater 9, ferry 0 9 99, moon 0 1 40 1, moon 0 1 40 1, moon 0 1 20 1, "
                    + "moon 0 1 19 1, moon 0 1 1 1, board 0 0, board 0 1");
            fails(REFUSED, () -> x.board(0, 2));
            due(x.board(0, 3), 99);
            fails(REFUSED, () -> x.board(0, 4));
            due(x.loadBest(0), 0);
            due(x.loadOf(0), 99);
        });
    }

    private static void phases() {
        says("Each time the present hour becomes a multiple of 24, the phase of each moon increases by 1;", () -> {
            MoonFerryOffice x = office(TWO + ", moon 0 1 1 1, moon 0 1 1 2, board 0 0, sail 0 1");
            x.pass(23);
            duePhases(x, 1, 2);
            x.pass(1);
            duePhases(x, 2, 3);
            x.addMoon(0, 1, 1, 0);
            duePhases(x, 2, 3, 0);
            x.pass(23);
            duePhases(x, 2, 3, 0);
            x.pass(48);
            duePhases(x, 4, 5, 2);
            x.pass(1);
            duePhases(x, 5, 6, 3);
            MoonFerryOffice full = office("crater 9, crater 9, moon 0 1 1 0, moon 0 1 1 1, moon 0 1 1 2, moon 0 1 1 3, "
                    + "moon 0 1 1 4, moon 0 1 1 5, moon 0 1 1 6, moon 0 1 1 7, moon 0 1 1 0, moon 0 1 1 1, pass 24");
            duePhases(full, 1, 2, 3, 4, 5, 6, 7, 0, 1, 2);
        });
        says("after 7 comes 0.", () -> {
            MoonFerryOffice x = office("crater 9, crater 9, moon 0 1 1 6, moon 0 1 1 7, pass 24");
            duePhases(x, 7, 0);
            x.pass(24);
            duePhases(x, 0, 1);
        });
    }

    private static void duePhases(MoonFerryOffice x, int... phases) {
        for (int moon = 0; moon < phases.length; moon++) {
            due(x.phaseOf(moon), phases[moon]);
        }
    }

    private static void fares() {
        says("The light of a phase is the phase if it is at most 4, and 8 minus the phase otherwise.", () -> {
            int[] fares = {1, 2, 3, 4, 5, 4, 3, 2};
            for (int phase = 0; phase < 8; phase++) {
                due(office("crater 9, crater 9, channel 0 1 1 0, moon 0 1 1 " + phase).fareOf(0), fares[phase]);
            }
        });
        says("The fare of a moon is the product of the least hours of a way from the crater where it was added to "
                + "its destination and its light plus 1;", () -> {
            MoonFerryOffice x = office("crater 9, crater 9, crater 9, channel 0 1 9 9, channel 1 2 9 9, moon 0 2 1 4, "
                    + "moon 2 0 1 0, ferry 0 9 40");
            due(x.fareOf(0), 90);
            due(x.fareOf(1), 18);
            Calls.make(x, "board 0 0, sail 0 1, pass 9, land 0");
            due(x.fareOf(0), 90);
            x.addChannel(0, 2, 5, 0);
            due(x.fareOf(0), 25);
            due(x.fareOf(1), 5);
        });
        says("it is 0 if there is no such way.", () -> {
            MoonFerryOffice x = office(TWO + ", moon 0 1 1 4, board 0 0, sail 0 1, pass 3");
            due(x.fareOf(0), 15);
            x.removeChannel(0);
            due(x.fareOf(0), 0);
            due(x.land(0), 0);
            due(x.moonCount(), 0);
            due(x.fareTotal(), 0);
        });
    }

    private static void loads() {
        says("A load of a ferry in a crater is a set of moons that wait in this crater, do not have the phase 0, and "
                + "whose weights together are at most the capacity of the ferry minus the weight of the moons aboard.",
                () -> {
            MoonFerryOffice x = office(TWO + ", ferry 0 9 40, moon 0 1 20 1, moon 0 1 40 0, moon 1 0 20 4, "
                    + "moon 0 1 20 1, moon 0 1 21 4, board 0 0, board 1 4");
            due(x.bestLoad(0), 6);
            due(x.bestLoadByTable(0), 6);
            due(x.loadBest(0), 1);
            due(x.ferryOf(3), 0);
            due(x.bestLoad(1), 0);
            due(x.bestLoadByTable(1), 0);
            x.land(4);
            due(x.bestLoad(1), 15);
            due(x.bestLoad(0), 0);
            due(x.shoreOf(1), 0);
        });
        says("The best load is the one with the greatest sum of fares;", () -> {
            MoonFerryOffice x = office(TWO + ", moon 0 1 40 4, moon 0 1 20 2, moon 0 1 20 2");
            due(x.bestLoad(0), 18);
            due(x.loadBest(0), 2);
            due(x.shoreOf(0), 0);
            MoonFerryOffice y = office(TWO + ", moon 0 1 40 4, moon 0 1 20 1, moon 0 1 20 1");
            due(y.bestLoadByTable(0), 15);
            due(y.loadBest(0), 1);
            due(y.ferryOf(0), 0);
            // A sum that is greater by 1 comes before the lowest number.
            MoonFerryOffice z = office("crater 9, crater 9, channel 0 1 1 9, ferry 0 9 40, moon 0 1 40 3, moon 0 1 20 2, "
                    + "moon 0 1 20 1");
            due(z.bestLoad(0), 5);
            due(z.bestLoadByTable(0), 5);
            due(z.loadBest(0), 2);
            due(z.shoreOf(0), 0);
        });
        says("of several, it is the one that contains the moon with the lowest number among those moons that are in "
                + "one of them and not in another one, even if the fare of this moon is 0.", () -> {
            dueLoaded("moon 0 1 40 3, moon 0 1 20 1, moon 0 1 20 1", 0);
            dueLoaded("moon 0 1 20 1, moon 0 1 40 3, moon 0 1 20 1", 0, 2);
            dueLoaded("moon 0 1 20 1, moon 0 1 20 1, moon 0 1 20 1", 0, 1);
            dueLoaded("crater 9, moon 0 2 20 4, moon 0 1 20 1, moon 0 2 20 4", 0, 1);
            dueLoaded("crater 9, moon 0 1 20 1, moon 0 2 20 4, moon 0 2 20 4", 0, 1);
            dueLoaded("crater 9, moon 0 2 1 1, moon 0 1 40 1, moon 0 2 1 1, moon 0 2 40 1", 1);
            dueLoaded("crater 9, moon 0 2 40 1, moon 0 2 1 1", 0);
            dueLoaded("crater 9, moon 0 2 1 1, moon 0 2 40 1, moon 0 2 1 7", 0, 2);
        });
    }

    private static void dueLoaded(String moons, int... loaded) {
        MoonFerryOffice x = office(TWO + ", " + moons);
        due(x.loadBest(0), loaded.length);
        for (int moon : loaded) {
            due(x.ferryOf(moon), 0);
        }
    }

    private static void refused(int reason, MoonFerryOffice x, Runnable call) {
        fails(REFUSED, call);
        due(x.refusalReason(), reason);
    }

    private static void sailingRefused() {
        says("Sailing is refused, for the first of these reasons that applies: 1 if there is no channel between the "
                + "crater of the ferry and the other crater;", () -> {
            MoonFerryOffice x = office("crater 0, crater 9, crater 9, channel 1 2 1 0, ferry 0 6 1, ferry 1 6 1");
            refused(1, x, () -> x.sail(0, 1));
            refused(1, x, () -> x.sail(0, 2));
            refused(1, x, () -> x.sail(0, 0));
            refused(1, x, () -> x.sail(1, 0));
            refused(1, x, () -> x.sail(1, 1));
        });
        says("2 if the ferry is stranded;", () -> {
            MoonFerryOffice x = office("crater 3, crater 9, channel 1 0 1 3, ferry 0 4 1, ferry 0 3 1");
            refused(2, x, () -> x.sail(0, 1));
            due(x.sail(1, 1), 1);
            x.pass(1);
            due(x.sail(0, 1), 2);
        });
        says("3 if the channel is not open for it.", () -> {
            MoonFerryOffice x = office("crater 9, crater 9, channel 1 0 1 3, ferry 0 4 1, ferry 0 3 1");
            refused(3, x, () -> x.sail(0, 1));
            due(x.sail(1, 1), 1);
            x.pass(1);
            due(x.sail(0, 1), 2);
        });
    }

    private static void boardingRefused() {
        says("Boarding is refused, for the first of these reasons that applies: 4 if the ferry is at sea, or the moon "
                + "waits in another crater;", () -> {
            MoonFerryOffice x = office(TWO + ", crater 0, ferry 2 6 1, moon 1 0 40 0, moon 0 1 40 0, moon 0 1 1 1");
            refused(4, x, () -> x.board(0, 0));
            refused(4, x, () -> x.board(1, 1));
            x.sail(0, 1);
            refused(4, x, () -> x.board(0, 1));
            refused(4, x, () -> x.board(0, 2));
            refused(4, x, () -> x.board(0, 0));
        });
        says("5 if the ferry is stranded;", () -> {
            MoonFerryOffice x = office("crater 3, crater 9, ferry 0 4 10, ferry 0 3 10, moon 0 1 11 0, moon 0 1 1 1");
            refused(5, x, () -> x.board(0, 0));
            refused(5, x, () -> x.board(0, 1));
            due(x.board(1, 1), 1);
        });
        says("6 if the weight of the moons aboard would be greater than the capacity;", () -> {
            MoonFerryOffice x = office("crater 9, crater 9, ferry 0 9 10, moon 0 1 11 1, moon 0 1 11 0, moon 0 1 10 1, "
                    + "moon 0 1 1 1, moon 0 1 1 0");
            refused(6, x, () -> x.board(0, 0));
            refused(6, x, () -> x.board(0, 1));
            due(x.board(0, 2), 10);
            refused(6, x, () -> x.board(0, 3));
            refused(6, x, () -> x.board(0, 4));
        });
        says("7 if the phase of the moon is 0.", () -> {
            MoonFerryOffice x = office("crater 9, crater 9, ferry 0 9 10, moon 0 1 1 0, moon 0 1 1 7, moon 0 1 1 1");
            refused(7, x, () -> x.board(0, 0));
            due(x.board(0, 1), 1);
            due(x.board(0, 2), 2);
        });
    }

    private static void hours() {
        says("When an hour passes, the present hour increases by 1 first.", () -> {
            // The tide of the new hour tells whether the ferry arrives stranded, and the arrival bears that hour.
            MoonFerryOffice x = office("crater 9, crater 0, channel 0 1 1 9, ferry 0 1 1, pass 11, sail 0 1, pass 1");
            due(x.passageHour(0), 12);
            due(x.strandingCount(), 1);
            MoonFerryOffice y = office("crater 9, crater 0, channel 0 1 1 9, ferry 0 1 1, sail 0 1, pass 1");
            due(y.passageHour(0), 1);
            due(y.strandingCount(), 0);
        });
        says("Then the phases increase if it is a multiple of 24.", () -> {
            MoonFerryOffice x = office("crater 9, crater 9, moon 0 1 1 1, pass 23");
            due(x.phaseOf(0), 1);
            x.pass(1);
            due(x.phaseOf(0), 2);
            x.pass(1);
            due(x.phaseOf(0), 2);
            x.pass(22);
            due(x.phaseOf(0), 2);
            x.pass(2);
            due(x.phaseOf(0), 3);
        });
        says("Then the ferries that arrive in this hour arrive, in the order of their numbers.", () -> {
            MoonFerryOffice x = office("crater 9, crater 9, crater 9, channel 0 1 3 9, channel 0 2 2 9, ferry 0 1 1, "
                    + "ferry 0 1 1, ferry 0 1 1, sail 2 1, pass 1, sail 1 2, sail 0 2, pass 2");
            due(x.passageCount(), 3);
            due(x.passageFerry(2), 0);
            due(x.passageFerry(1), 1);
            due(x.passageFerry(0), 2);
            due(x.passageCrater(0), 1);
            due(x.passageCrater(1), 2);
        });
    }

    private static void rescues() {
        says("A rescue costs the office 5 coins for each moon that leaves the ferry.", () -> {
            String moons = "crater 0, crater 9, ferry 0 1 99, moon 0 1 1 4, moon 0 1 1 4, moon 0 1 1 4, pass 1";
            due(office(moons + ", pass 11, rescue 0").coins(), 0);
            due(office(moons + ", board 0 1, pass 11, rescue 0").coins(), -5);
            due(office(moons + ", load 0, pass 11, rescue 0").coins(), -15);
            due(office(moons + ", load 0, pass 11, rescue 0, rescue 0").coins(), -15);
        });
    }
}
