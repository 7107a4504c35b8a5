import java.util.List;

/** The sentences on changes in the section "Terms" and in promises 59 to 61, with their edges. */
public final class UndoEdgesTest extends Edges {
    /** Nine changes, of which the first one cannot be undone any more; ferry 1 is stranded. */
    private static final String PORT = "crater 9, crater 9, crater 0, channel 0 1 3 9, ferry 0 9 40, ferry 2 1 40, "
            + "moon 0 1 10 4, moon 0 1 10 1, board 0 0";

    /** The same office, made by two changes. */
    private static final String TWO_RUNS = "text crater 9;crater 9;crater 0;channel 01 3 9;ferry 0 9 40, "
            + "text ferry 2 1 40;moon 01 10 4;moon 01 10 1;board 0 0";

    /** Two offices that differ in each thing that changes can change, the first one made by seven changes. */
    private static final String FIRST = "text crater 9;crater 8;crater 0;channel 01 2 9;channel 12 3 8, "
            + "text ferry 0 7 50;ferry 1 8 60;ferry 2 2 70;moon 01 11 3;pass 2, "
            + "text moon 12 12 4;moon 02 13 5;moon 21 14 6;load 0;load 1;load 2, "
            + "text sail 0 1;pass 5;sail 0 0;pass 2;land 0;land 3, "
            + "text load 0;sail 0 1;load 2;pass 15;land 0;sail 0 0;pass 1, rescue 2, sail 1 2";
    private static final String OTHER = "crater 3, crater 2, crater 5, channel 2 1 1 2, channel 0 2 5 1, ferry 2 1 9, "
            + "ferry 2 2 8, ferry 1 3 7, moon 1 0 1 1, moon 2 0 2 2, sail 0 0, sail 1 1, pass 9, sail 0 2, pass 8, "
            + "moon 0 2 3 7";
    private static final String[] CHANGES = {"crater 3", "channel 1 2 4 5", "removeChannel 0", "ferry 1 2 3", "sail 0 1",
        "moon 1 0 7 3", "board 0 1", "land 0", "load 0", "rescue 1", "pass 1", "pass 48", "text pass 2",
        "text crater 1;ferry 1 1 1;moon 10 1 1;sail 0 1;pass 24;land 0"};

    public static void main(String[] args) {
        section("Terms: Changes");
        changes();
        idleChanges();
        latestEight();
        notUndone();
        undone();
        undo();
        undoThrows();
        save();
        restore();
        restoreThrows();
        end(4);
    }

    private static List<String> portrait(String calls) {
        return Portrait.of(office(calls));
    }

    private static String undos(int count) {
        return ", undo".repeat(count);
    }

    private static void changes() {
        says("A change is a successful call of addCrater, addChannel, removeChannel, addFerry, sail, addMoon, board, "
                + "land, loadBest, rescue, pass or run.", () -> {
            for (String change : CHANGES) {
                MoonFerryOffice x = office(TWO_RUNS + ", " + change);
                due(change + x.undo(), change + 2);
                due(Portrait.of(x), portrait(PORT));
                due(x.undo(), 1);
            }
            String[] others = {"craterCount", "channelCount", "depthOf 0", "channelBetween 0 1", "tide 3", "wayHours 0 1",
                "cheapestNet", "isAtSea 0", "craterOf 0", "hoursLeft 0", "isStranded 0", "loadOf 0", "earliestArrival 0 1",
                "bestLoad 0", "bestLoadByTable 0", "moonCount", "moonAt 0", "fareOf 0", "moonAtRank 0", "countBelow 9",
                "hour", "coins", "fareTotal", "append 65", "type pass 3", "describeFerry 0", "meanPhase", "loadShare 0",
                "isConsistent", "save", "addCrater 10", "pass 0", "sail 0 0", "board 1 1", "land 1", "load 1",
                "rescue 0", "removeChannel 1", "text pass 0", "text x", "addFerry 9 1 1", "addMoon 0 0 1 1"};
            for (String other : others) {
                MoonFerryOffice x = office("pass 4, crater 9, crater 9, channel 0 1 3 9, ferry 0 9 1, moon 0 1 2 3");
                Calls.answer(x, other);
                due(other + x.undo(), other + 5);
            }
        });
    }

    private static void idleChanges() {
        says("A successful call is a change even if nothing differs afterwards.", () -> {
            String port = "crater 0, crater 9, ferry 0 1 1, ferry 1 1 1";
            for (String idle : new String[] {"load 1", "rescue 0", "text load 1", "text rescue 0;load 1"}) {
                MoonFerryOffice x = office(port + ", " + idle);
                due(Portrait.of(x), portrait(port));
                due(idle + x.undo(), idle + 4);
                due(Portrait.of(x), portrait(port));
                due(x.undo(), 3);
                fails(INDEX, () -> x.craterOf(1));
            }
            MoonFerryOffice y = office(port + ", load 1, load 1, load 1, load 1, load 1, load 1, load 1, load 1");
            for (int left = 7; left >= 0; left--) {
                due(y.undo(), left);
            }
            fails(STATE, y::undo);
            due(Portrait.of(y), portrait(port));
        });
        says("A call of run that carries out several commands is one change.", () -> {
            MoonFerryOffice x = office("pass 1, text pass 1;pass 2;pass 3;pass 4;pass 5;pass 6;pass 7;pass 8");
            due(x.hour(), 37);
            due(x.undo(), 1);
            due(x.hour(), 1);
            due(x.undo(), 0);
            due(x.hour(), 0);
            MoonFerryOffice y = office("text pass 1, text pass 1, text pass 1, text pass 1, text pass 1, text pass 1, "
                    + "text pass 1, text pass 1, text pass 1;pass 1");
            due(y.undo(), 7);
            due(y.hour(), 8);
        });
    }

    private static void latestEight() {
        says("The latest 8 changes can be undone, the latest one first.", () -> {
            MoonFerryOffice x = office("pass 1, pass 2, pass 3, pass 4, pass 5, pass 6, pass 7, pass 8");
            int[] hours = {28, 21, 15, 10, 6, 3, 1, 0};
            dueUndone(x, hours);
            fails(STATE, x::undo);
            MoonFerryOffice y = office("pass 9, pass 1, pass 2, pass 3, pass 4, pass 5, pass 6, pass 7, pass 8");
            int[] later = {37, 30, 24, 19, 15, 12, 10, 9};
            dueUndone(y, later);
            fails(STATE, y::undo);
            due(y.hour(), 9);
            // Round and round: far more changes than can be kept, with some undone between them.
            MoonFerryOffice z = office("pass 1, pass 2, pass 3, undo, pass 4, pass 5, pass 6, pass 7, pass 8, pass 9, "
                    + "pass 10, pass 11, undo, undo, pass 12, pass 13, pass 14");
            int[] round = {67, 54, 42, 33, 25, 18, 12, 7};
            due(z.hour(), 81);
            dueUndone(z, round);
            fails(STATE, z::undo);
        });
    }

    private static void dueUndone(MoonFerryOffice x, int[] hours) {
        for (int i = 0; i < hours.length; i++) {
            due(x.undo(), hours.length - 1 - i);
            due(x.hour(), hours[i]);
        }
    }

    private static void notUndone() {
        says("The command text, the error position, the failed command, the kept reason, and the line are neither undone "
                + "nor saved.", () -> {
            for (String back : new String[] {"undo", "restore", "undo, undo, restore"}) {
                MoonFerryOffice x = office(PORT + ", save, pass 1, pass 1, type pass");
                due(x.append(' '), 5);
                fails(REFUSED, () -> x.sail(0, 2));
                x.describeFerry(1);
                Calls.make(x, back);
                due(x.append('9'), 6);
                due(x.refusalReason(), 1);
                due(x.lineAt(0), '1');
                due(x.run(), 1);
                due(Calls.answer(x, "text pass 1;land 9"), STATE);
                due(Calls.answer(x, "text pas~"), ARGUMENT);
                x.pass(1);
                Calls.make(x, back);
                due(x.errorPosition(), 3);
                due(x.failedCommand(), 1);
            }
        });
    }

    private static void undone() {
        says("Everything else is, also the number that is given next.", () -> {
            for (String change : CHANGES) {
                due(portrait(PORT + ", " + change + ", undo"), portrait(PORT));
                due(portrait(PORT + ", save, " + change + ", restore"), portrait(PORT));
                due(portrait(PORT + ", " + change).equals(portrait(PORT)), change.equals("rescue 1"));
            }
            due(office(PORT + ", moon 0 1 1 1, undo").addMoon(0, 1, 1, 1), 2);
            due(office(PORT + ", save, moon 0 1 1 1, moon 0 1 1 1, restore").addMoon(0, 1, 1, 1), 2);
            due(office(PORT + ", sail 0 1, pass 3, land 0, undo").addMoon(0, 1, 1, 1), 2);
            // What later changes wrote over comes back: channels, a passage of the latest ten, an arrival.
            String channels = "crater 9, crater 9, crater 9, channel 0 1 1 2, channel 1 2 3 4, channel 0 2 5 6";
            due(portrait(channels + ", removeChannel 0, undo"), portrait(channels));
            due(portrait(channels + ", removeChannel 0, removeChannel 0, channel 1 0 7 8, undo, undo, undo"),
                    portrait(channels));
            String ferries = "crater 9, crater 9, channel 0 1 1 9, ferry 0 1 1, ferry 0 1 1, sail 1 1, pass 1"
                    + ", sail 0 1, pass 1, sail 0 0, pass 1".repeat(4) + ", sail 0 1, pass 1";
            due(portrait(ferries + ", sail 0 0, pass 1, undo, undo"), portrait(ferries));
            due(portrait(ferries + ", sail 0 0, pass 1, sail 0 1, pass 1, undo, undo, undo, undo"), portrait(ferries));
            due(portrait(ferries + ", sail 0 0, pass 1, sail 0 1, undo, undo"), portrait(ferries + ", sail 0 0"));
            // A number that was given before the snapshot goes on from there.
            due(office(PORT + ", sail 0 1, pass 3, land 0, save, restore").addMoon(0, 1, 1, 1), 2);
        });
    }

    private static void undo() {
        section("Promise 59: undo");
        says("Undoes the latest change that has not been undone.", () -> {
            MoonFerryOffice x = office("pass 1, pass 2, pass 4");
            x.undo();
            due(x.hour(), 3);
            x.undo();
            due(x.hour(), 1);
            Calls.make(x, "pass 8, undo");
            due(x.hour(), 1);
            x.undo();
            due(x.hour(), 0);
        });
        says("Returns the number of changes that can still be undone.", () -> {
            due(office("pass 1").undo(), 0);
            due(office("pass 1, pass 1").undo(), 1);
            due(office("pass 1, pass 1, undo, pass 1").undo(), 1);
            due(office("pass 1, pass 1, pass 1, pass 1, pass 1, pass 1, pass 1, pass 1").undo(), 7);
            due(office("pass 1, pass 1, pass 1, pass 1, pass 1, pass 1, pass 1, pass 1, pass 1").undo(), 7);
            due(office("pass 1, pass 1, pass 1, pass 1, pass 1, pass 1, pass 1, pass 1, pass 1, undo, pass 1").undo(), 7);
            due(office("pass 1, save, restore, pass 1, pass 1").undo(), 1);
        });
    }

    private static void undoThrows() {
        says("Throws `IllegalStateException` if there is no change to undo", () -> {
            fails(STATE, () -> office("").undo());
            fails(STATE, () -> office("pass 1, undo").undo());
            fails(STATE, () -> office("save").undo());
            fails(STATE, () -> office("pass 1, save, restore").undo());
            fails(STATE, () -> office(PORT + undos(8)).undo());
            MoonFerryOffice x = office("pass 1, undo");
            fails(STATE, x::undo);
            fails(STATE, x::undo);
            due(x.hour(), 0);
            x.pass(2);
            due(x.undo(), 0);
        });
    }

    private static void save() {
        section("Promise 60: save");
        says("Saves everything that changes can change as the snapshot, replacing an earlier snapshot.", () -> {
            MoonFerryOffice x = office("pass 1, save, pass 2, save, pass 4, restore");
            due(x.hour(), 3);
            due(Portrait.of(office(PORT + ", save, sail 0 1, pass 3, land 0, removeChannel 0, restore")),
                    portrait(PORT));
            String undone = FIRST + ", save" + undos(7);
            due(portrait(undone), portrait(""));
            due(portrait(undone + ", " + OTHER), portrait(OTHER));
            due(portrait(undone + ", " + OTHER + ", restore"), portrait(FIRST));
            due(portrait("save, " + FIRST + ", restore, " + OTHER), portrait(OTHER));
            // An undone state can be saved, and undoing leaves the snapshot as it is.
            due(office("pass 1, pass 2, undo, save, pass 4, restore").hour(), 1);
            due(office("pass 1, pass 2, save, undo, undo, restore").hour(), 3);
        });
        says("Returns the number of moons.", () -> {
            due(office("").save(), 0);
            due(office(PORT).save(), 2);
            due(office(PORT + ", sail 0 1, pass 3, land 0").save(), 1);
            due(office("crater 1, crater 1, moon 0 1 1 1, moon 0 1 1 1, moon 0 1 1 1, moon 0 1 1 1, moon 0 1 1 1, "
                    + "moon 0 1 1 1, moon 0 1 1 1, moon 0 1 1 1, moon 0 1 1 1, moon 0 1 1 1").save(), 10);
        });
    }

    private static void restore() {
        section("Promise 61: restore");
        says("Restores the snapshot, which is kept.", () -> {
            MoonFerryOffice x = office(PORT + ", save");
            for (String change : CHANGES) {
                Calls.make(x, change + ", restore");
                due(x.hour(), 0);
                due(x.moonCount(), 2);
                due(x.ferryOf(0), 0);
            }
            due(Portrait.of(x), portrait(PORT));
            // The empty office can be saved too.
            due(portrait("save, " + PORT + ", restore"), portrait(""));
        });
        says("After the call no change can be undone.", () -> {
            MoonFerryOffice x = office("pass 1, pass 2, save, pass 3, restore");
            fails(STATE, x::undo);
            due(x.hour(), 3);
            x.pass(4);
            due(x.undo(), 0);
            due(x.hour(), 3);
            fails(STATE, x::undo);
            // A restore is no change.
            fails(STATE, () -> office("save, restore").undo());
        });
        says("Returns the number of moons.", () -> {
            due(office("save").restore(), 0);
            due(office(PORT + ", save, moon 0 1 1 1").restore(), 2);
            due(office(PORT + ", save, sail 0 1, pass 3, land 0").restore(), 2);
        });
    }

    private static void restoreThrows() {
        says("Throws `IllegalStateException` if there is no snapshot", () -> {
            MoonFerryOffice x = office("");
            fails(STATE, x::restore);
            Calls.make(x, "pass 1");
            fails(STATE, x::restore);
            due(x.hour(), 1);
            due(x.undo(), 0);
            Calls.make(x, "save, restore");
            due(x.restore(), 0);
        });
    }
}
