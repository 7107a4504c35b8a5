/** The sentences of promises 40 to 49, with their edges. */
public final class HoursEdgesTest extends Edges {
    private static final int[] NO_PASSAGES = {-1, 2, 9, 10, MIN, MAX};

    /** Three ferries at the ends of two channels. */
    private static final String PORT = "crater 9, crater 9, crater 9, channel 0 1 1 9, channel 0 2 2 9, ferry 1 1 1, "
            + "ferry 0 1 1, ferry 0 1 1";

    /** Ferry 1 came to crater 2 in hour 2, then ferry 2 to crater 1 in hour 4. */
    private static final String TWO_PASSAGES = PORT + ", sail 1 2, pass 3, sail 2 1, pass 2";

    /** Ferry 0 is stranded with two moons aboard. */
    private static final String STRANDED = "crater 0, crater 0, channel 0 1 9 9, ferry 0 1 99, moon 0 1 1 4, "
            + "moon 0 1 1 1, pass 1, load 0, pass 11";

    public static void main(String[] args) {
        pass();
        passThrows();
        hour();
        refusalReason();
        passageCount();
        passageFerry();
        passageCrater();
        passageHour();
        strandingCount();
        coins();
        fareTotal();
        end(10);
    }

    private static void pass() {
        section("Promise 40: pass");
        says("Lets hours pass.", () -> {
            MoonFerryOffice x = office("pass 7");
            due(x.hour(), 7);
            due(office("crater 0, ferry 0 6 1, pass 6").isStranded(0), false);
        });
        says("`hours`: the number of hours, 1 to 48", () -> {
            MoonFerryOffice x = office("");
            due(x.pass(1), 0);
            due(x.hour(), 1);
            due(x.pass(48), 0);
            due(x.hour(), 49);
        });
        says("Returns the number of arrivals in these hours.", () -> {
            MoonFerryOffice x = office(PORT + ", sail 0 0, sail 1 2, sail 2 2");
            due(x.pass(1), 1);
            due(x.pass(1), 2);
            due(x.pass(48), 0);
            MoonFerryOffice y = office("crater 9, crater 9, channel 0 1 9 9, ferry 0 1 1, ferry 0 1 1, sail 0 1");
            due(y.pass(8), 0);
            y.sail(1, 1);
            due(y.pass(1), 1);
            due(y.pass(8), 1);
            Calls.make(y, "sail 0 0, sail 1 0");
            due(y.pass(48), 2);
        });
    }

    private static void passThrows() {
        says("Throws `IllegalArgumentException` if the number is out of range", () -> {
            MoonFerryOffice x = office("");
            for (int hours : new int[] {0, 49, -1, MIN, MAX}) {
                fails(ARGUMENT, () -> x.pass(hours));
            }
            due(x.hour(), 0);
        });
    }

    private static void hour() {
        section("Promise 41: hour");
        says("Returns the number of hours that have passed.", () -> {
            due(office("").hour(), 0);
            due(office("pass 1, pass 2").hour(), 3);
            due(office("pass 5, undo").hour(), 0);
        });
        says("Returns the number of hours.", () -> due(office("pass 48, pass 48, pass 4").hour(), 100));
    }

    private static void refusalReason() {
        section("Promise 42: refusalReason");
        says("Returns the reason of the refusal that was kept last.", () -> {
            MoonFerryOffice x = office("crater 0, crater 9, ferry 0 1 1, moon 0 1 1 0, moon 1 0 1 1");
            fails(REFUSED, () -> x.board(0, 0));
            due(x.refusalReason(), 5);
            fails(REFUSED, () -> x.sail(0, 1));
            due(x.refusalReason(), 1);
            due(x.refusalReason(), 1);
            fails(REFUSED, () -> x.board(0, 1));
            due(x.refusalReason(), 4);
            Calls.make(x, "pass 1, undo");
            due(x.refusalReason(), 4);
            fails(INDEX, () -> x.sail(1, 0));
            due(x.refusalReason(), 4);
        });
        says("Returns the reason, 1 to 7.", () -> {
            MoonFerryOffice x = office("crater 2, crater 9, crater 9, channel 0 1 1 0, ferry 0 3 1, moon 1 0 1 1, "
                    + "moon 0 1 2 1, moon 0 1 1 0");
            dueReason(x, 1, () -> x.sail(0, 2));
            dueReason(x, 2, () -> x.sail(0, 1));
            dueReason(x, 5, () -> x.board(0, 1));
            x.pass(1);
            dueReason(x, 3, () -> x.sail(0, 1));
            dueReason(x, 4, () -> x.board(0, 0));
            dueReason(x, 6, () -> x.board(0, 1));
            dueReason(x, 7, () -> x.board(0, 2));
        });
        says("Throws `NoSuchElementException` if nothing was refused", () -> {
            fails(ELEMENT, () -> office("").refusalReason());
            MoonFerryOffice x = office(STRANDED);
            fails(REFUSED, () -> x.land(0));
            fails(REFUSED, () -> x.loadBest(0));
            fails(STATE, () -> x.board(0, 0));
            fails(INDEX, () -> x.sail(0, 2));
            fails(ELEMENT, x::refusalReason);
        });
    }

    private static void dueReason(MoonFerryOffice x, int reason, Runnable call) {
        fails(REFUSED, call);
        due(x.refusalReason(), reason);
    }

    private static void passageCount() {
        section("Promise 43: passageCount");
        says("Returns the number of passages so far, that is, of arrivals.", () -> {
            due(office("").passageCount(), 0);
            due(office(PORT + ", sail 1 2, pass 1").passageCount(), 0);
            due(office(PORT + ", sail 1 2, pass 2").passageCount(), 1);
            due(office(TWO_PASSAGES).passageCount(), 2);
            due(office(TWO_PASSAGES + ", undo").passageCount(), 1);
        });
        says("Returns the number of passages.", () -> due(manyPassages(13).passageCount(), 13));
    }

    /** Ferry 0 goes to and fro between the craters 1 and 0; its passage i ends in hour i + 1. */
    private static MoonFerryOffice manyPassages(int count) {
        MoonFerryOffice x = office(PORT);
        for (int i = 0; i < count; i++) {
            x.sail(0, i % 2);
            x.pass(1);
        }
        return x;
    }

    private static void passageFerry() {
        section("Promise 44: passageFerry");
        says("Returns the ferry of one of the latest 10 passages.", () -> {
            MoonFerryOffice x = office(PORT + ", sail 1 1, sail 2 1, pass 1");
            for (int i = 0; i < 9; i++) {
                Calls.make(x, "sail 0 " + i % 2 + ", pass 1");
            }
            // Eleven passages, of which the first one, of ferry 1, is not kept any more.
            due(x.passageFerry(8), 0);
            due(x.passageFerry(9), 2);
            fails(ELEMENT, () -> x.passageFerry(10));
        });
        says("`recency`: 0 for the latest passage, 1 for the one before it, and so on", () -> {
            MoonFerryOffice x = office(TWO_PASSAGES);
            due(x.passageFerry(0), 2);
            due(x.passageFerry(1), 1);
        });
        says("Returns the number of the ferry.", () -> {
            MoonFerryOffice x = office(PORT + ", sail 2 2, sail 1 2, pass 2");
            due(x.passageFerry(0), 2);
            due(x.passageFerry(1), 1);
        });
        says("Throws `NoSuchElementException` if there is no such passage", () -> {
            MoonFerryOffice x = office(TWO_PASSAGES);
            for (int recency : NO_PASSAGES) {
                fails(ELEMENT, () -> x.passageFerry(recency));
            }
            fails(ELEMENT, () -> office("").passageFerry(0));
            fails(ELEMENT, () -> manyPassages(9).passageFerry(9));
            due(manyPassages(10).passageFerry(9), 0);
            fails(ELEMENT, () -> manyPassages(10).passageFerry(10));
            fails(ELEMENT, () -> manyPassages(20).passageFerry(10));
        });
    }

    private static void passageCrater() {
        section("Promise 45: passageCrater");
        says("Returns the crater in which one of the latest 10 passages ended.", () -> {
            MoonFerryOffice x = office(PORT + ", sail 1 1, pass 1, sail 2 2, pass 2");
            for (int i = 0; i < 9; i++) {
                Calls.make(x, "sail 0 " + i % 2 + ", pass 1");
            }
            due(x.passageCrater(8), 0);
            due(x.passageCrater(9), 2);
            fails(ELEMENT, () -> x.passageCrater(10));
        });
        says("`recency`: 0 for the latest passage, 1 for the one before it, and so on", () -> {
            MoonFerryOffice x = manyPassages(13);
            for (int recency = 0; recency < 10; recency++) {
                due(x.passageCrater(recency), recency % 2);
            }
        });
        says("Returns the number of the crater.", () -> {
            MoonFerryOffice x = office(TWO_PASSAGES);
            due(x.passageCrater(0), 1);
            due(x.passageCrater(1), 2);
            // Where the passage ended, not where the ferry went then.
            Calls.make(x, "sail 2 0");
            due(x.passageCrater(0), 1);
        });
        says("Throws `NoSuchElementException` if there is no such passage", () -> {
            MoonFerryOffice x = office(TWO_PASSAGES);
            for (int recency : NO_PASSAGES) {
                fails(ELEMENT, () -> x.passageCrater(recency));
            }
            fails(ELEMENT, () -> office("").passageCrater(0));
            fails(ELEMENT, () -> manyPassages(9).passageCrater(9));
            due(manyPassages(10).passageCrater(9), 0);
            fails(ELEMENT, () -> manyPassages(10).passageCrater(10));
            fails(ELEMENT, () -> manyPassages(20).passageCrater(10));
        });
    }

    private static void passageHour() {
        section("Promise 46: passageHour");
        says("Returns the hour in which one of the latest 10 passages ended.", () -> {
            MoonFerryOffice x = manyPassages(11);
            due(x.passageHour(9), 2);
            fails(ELEMENT, () -> x.passageHour(10));
        });
        says("`recency`: 0 for the latest passage, 1 for the one before it, and so on", () -> {
            MoonFerryOffice x = manyPassages(13);
            for (int recency = 0; recency < 10; recency++) {
                due(x.passageHour(recency), 13 - recency);
            }
        });
        says("Returns the hour.", () -> {
            MoonFerryOffice x = office(TWO_PASSAGES + ", pass 48");
            due(x.passageHour(0), 4);
            due(x.passageHour(1), 2);
        });
        says("Throws `NoSuchElementException` if there is no such passage", () -> {
            MoonFerryOffice x = office(TWO_PASSAGES);
            for (int recency : NO_PASSAGES) {
                fails(ELEMENT, () -> x.passageHour(recency));
            }
            fails(ELEMENT, () -> office("").passageHour(0));
            fails(ELEMENT, () -> manyPassages(9).passageHour(9));
            due(manyPassages(10).passageHour(9), 1);
            fails(ELEMENT, () -> manyPassages(10).passageHour(10));
            fails(ELEMENT, () -> manyPassages(20).passageHour(10));
        });
    }

    private static void strandingCount() {
        section("Promise 47: strandingCount");
        says("Returns how many passages ended so far with the ferry being stranded.", () -> {
            String shoal = "crater 9, crater 0, channel 0 1 2 9, ferry 0 3 1, ferry 0 2 1, sail 0 1, sail 1 1";
            due(office(shoal + ", pass 1").strandingCount(), 0);
            due(office(shoal + ", pass 2").strandingCount(), 1);
            // Ferry 0 floats again and ferry 1 strands later, both without a passage.
            due(office(shoal + ", pass 12").strandingCount(), 1);
            due(office("crater 0, ferry 0 1 1, pass 48").strandingCount(), 0);
            due(office(shoal + ", pass 2, undo").strandingCount(), 0);
        });
        says("Returns the number of passages.", () -> {
            MoonFerryOffice x = office("crater 9, crater 0, channel 0 1 6 9, ferry 0 1 1, ferry 0 1 1, pass 6");
            due(x.strandingCount(), 0);
            Calls.make(x, "sail 0 1, sail 1 1, pass 6");
            due(x.strandingCount(), 2);
            Calls.make(x, "pass 1, sail 0 0, pass 6");
            due(x.strandingCount(), 2);
        });
    }

    private static void coins() {
        section("Promise 48: coins");
        says("Returns the coins of the office: all fares that were paid, minus all costs of rescues.", () -> {
            MoonFerryOffice x = office(STRANDED);
            due(x.coins(), 0);
            x.rescue(0);
            due(x.coins(), -10);
            Calls.make(x, "pass 1, load 0, sail 0 1, pass 9, land 0");
            due(x.coins(), 35);
            x.land(1);
            due(x.coins(), 53);
            x.undo();
            due(x.coins(), 35);
        });
        says("Returns the number of coins, possibly negative.", () -> {
            due(office("").coins(), 0);
            due(office(STRANDED + ", rescue 0").coins(), -10);
            due(office(STRANDED + ", rescue 0, pass 1, load 0, pass 11, rescue 0").coins(), -20);
        });
    }

    private static void fareTotal() {
        section("Promise 49: fareTotal");
        says("Returns the fares that were paid so far.", () -> {
            MoonFerryOffice x = office(STRANDED + ", pass 1, sail 0 1, pass 9");
            due(x.fareTotal(), 0);
            x.land(0);
            due(x.fareTotal(), 45);
            x.land(1);
            due(x.fareTotal(), 63);
            x.undo();
            due(x.fareTotal(), 45);
        });
        says("Returns the number of coins.", () -> {
            due(office("").fareTotal(), 0);
            due(office(STRANDED + ", rescue 0").fareTotal(), 0);
            due(office(STRANDED + ", rescue 0, pass 1, load 0, sail 0 1, pass 9, land 1").fareTotal(), 18);
        });
    }
}
