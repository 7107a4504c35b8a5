import java.util.ArrayList;
import java.util.List;

/** The two sentences on exceptions in the section "Terms", for each exception of each method. */
public final class ExceptionsEdgesTest extends Edges {
    /**
     * Ferry 0 is at sea with moon 0, ferry 1 stranded in crater 2 with moon 1, ferry 2 afloat in crater 1. Of the
     * moons in crater 1, moon 2 is too heavy, moon 3 has the phase 0, and moon 4 could board. No channel leads to
     * crater 4. There are a snapshot, changes that can be undone, a reason, a line, an error position, a failed
     * command, and the beginning of a command text.
     */
    private static final String RICH = "text crater 9;crater 9;crater 0;crater 9;crater 9, channel 0 1 9 9, "
            + "channel 1 2 2 9, channel 0 2 1 0, channel 1 3 1 0, text ferry 0 9 40;ferry 0 3 20;ferry 1 9 30, "
            + "text moon 01 10 4;moon 01 11 7;moon 10 31 1;moon 10 5 0, text moon 12 6 2;moon 21 1 1;moon 04 1 1, pass 3, "
            + "board 1 1, sail 1 2, save, pass 7, board 0 0, sail 0 1, rescue 1, undo, !sail 2 4, !text pass 1;pass 0, "
            + "!text pas~, describeFerry 0, type pass";
    private static final String FULL = "crater 9, crater 9, crater 9, crater 9, crater 9, crater 0, channel 0 1 1 1, "
            + "channel 0 2 1 1, channel 0 3 1 1, channel 0 4 1 1, channel 0 5 1 1, channel 1 2 1 1, channel 1 3 1 1, "
            + "channel 1 4 1 1, channel 1 5 1 1, channel 2 3 1 1, ferry 0 1 9, ferry 1 1 9, ferry 5 9 9, moon 0 1 1 1, "
            + "moon 0 1 1 1, moon 0 1 1 1, moon 0 1 1 1, moon 0 1 1 1, moon 0 1 1 1, moon 0 1 1 1, moon 0 1 1 1, "
            + "moon 0 1 1 1, moon 0 1 1 1";
    private static final String[] THEN = {"", "undo", "undo, undo", "undo, undo, undo, undo, undo, undo, undo, undo",
        "restore", "restore, addMoon 0 1 1 1", "addMoon 0 1 1 1", "pass 1", "pass 48", "save, pass 1, restore", "run",
        "append 32, append 50, run"};
    private static final String[] KEPT = {"refusalReason", "errorPosition", "failedCommand", "lineAt 0", "lineAt 1",
        "lineAt 2", "lineAt 3", "lineAt 4", "lineAt 5", "lineAt 6", "append 120"};

    public static void main(String[] args) {
        section("Terms: Exceptions");
        says("A method that throws an exception changes nothing, except that a reason is kept, and that run clears the "
                + "command text and sets the error position or the failed command.", () -> {
            setUps();
            watersChangeNothing();
            ferriesChangeNothing();
            moonsChangeNothing();
            moonReadersChangeNothing();
            theRestChangesNothing();
            refusalsKeepOnlyReasons();
            runKeepsOnlyWhatItSets();
        });
        says("If several exceptions apply, the exception listed first is thrown.", () -> {
            watersInOrder();
            ferriesInOrder();
            moonsInOrder();
            textsInOrder();
        });
        end(1);
    }

    // What the comment of RICH says, so that the calls below fail for the reasons that they are made for.
    private static void setUps() {
        MoonFerryOffice x = office(RICH);
        due(x.isAtSea(0), true);
        due(x.ferryOf(0), 0);
        due(x.isStranded(1), true);
        due(x.ferryOf(1), 1);
        due(x.isStranded(2), false);
        due(x.refusalReason(), 1);
        due(x.errorPosition(), 3);
        due(x.failedCommand(), 1);
        due(x.board(2, 4), 6);
        MoonFerryOffice y = office(FULL);
        due(y.craterCount() + y.channelCount() + y.moonCount(), 26);
        fails(STATE, () -> y.addFerry(0, 1, 1));
    }

    private static List<Object> answers(MoonFerryOffice x, String calls) {
        List<Object> answers = new ArrayList<>();
        for (String call : calls.isEmpty() ? new String[0] : calls.split(", ")) {
            answers.add(Calls.answer(x, call));
        }
        answers.add(Portrait.of(x));
        return answers;
    }

    /** The call fails, and whatever is called then answers as if it had not been made. */
    private static void nothing(String setup, String call, Class<?> exception) {
        nothingBut(setup, call, exception, List.of());
    }

    private static void nothingBut(String setup, String call, Class<?> exception, List<String> changed) {
        MoonFerryOffice x = office(setup);
        MoonFerryOffice y = office(setup);
        due(call + " " + Calls.answer(x, call), call + " " + exception);
        for (String kept : KEPT) {
            Object after = Calls.answer(x, kept);
            Object before = Calls.answer(y, kept);
            if (!changed.contains(kept)) {
                due(call + " then " + kept + " " + after, call + " then " + kept + " " + before);
            }
        }
        for (String then : THEN) {
            if (changed.contains("append 120") && then.endsWith("run")) {
                continue;
            }
            MoonFerryOffice failed = office(setup);
            Calls.answer(failed, call);
            due(call + " then " + then + answers(failed, then), call + " then " + then + answers(office(setup), then));
        }
    }

    private static void watersChangeNothing() {
        nothing(RICH, "addCrater -1", ARGUMENT);
        nothing(RICH, "addCrater 10", ARGUMENT);
        nothing(FULL, "addCrater 1", STATE);
        nothing(RICH, "addChannel 5 0 1 1", INDEX);
        nothing(RICH, "addChannel 0 -1 1 1", INDEX);
        nothing(RICH, "addChannel 4 4 1 1", ARGUMENT);
        nothing(RICH, "addChannel 0 4 0 1", ARGUMENT);
        nothing(RICH, "addChannel 0 4 10 1", ARGUMENT);
        nothing(RICH, "addChannel 0 4 1 -1", ARGUMENT);
        nothing(RICH, "addChannel 0 4 1 10", ARGUMENT);
        nothing(RICH, "addChannel 1 0 1 1", STATE);
        nothing(FULL, "addChannel 4 5 1 1", STATE);
        nothing(RICH, "removeChannel 4", INDEX);
        nothing(RICH, "removeChannel -1", INDEX);
        nothing(RICH, "removeChannel 0", STATE);
        nothing(RICH, "depthOf 5", INDEX);
        nothing(RICH, "channelBetween 0 5", INDEX);
        nothing(RICH, "channelBetween 0 4", ELEMENT);
        nothing(RICH, "tide -1", ARGUMENT);
        nothing(RICH, "tide 10000", ARGUMENT);
        nothing(RICH, "wayHours 5 0", INDEX);
        nothing(RICH, "wayHours 0 4", ELEMENT);
        nothing(RICH, "wayHoursByTable 5 0", INDEX);
        nothing(RICH, "wayHoursByTable 0 4", ELEMENT);
        nothing(RICH, "cheapestNet", ELEMENT);
        nothing(RICH, "cheapestNetByGrowing", ELEMENT);
    }

    private static void ferriesChangeNothing() {
        nothing(RICH, "addFerry 5 1 1", INDEX);
        nothing(RICH, "addFerry 0 13 1", ARGUMENT);
        nothing(RICH, "addFerry 0 1 100", ARGUMENT);
        nothing(RICH, "addFerry 0 1 1", STATE);
        nothing(RICH, "sail 3 0", INDEX);
        nothing(RICH, "sail 2 5", INDEX);
        nothing(RICH, "sail 0 1", STATE);
        for (String reader : new String[] {"isAtSea", "craterOf", "targetOf", "hoursLeft", "isStranded", "loadOf",
            "bestLoad", "bestLoadByTable", "loadShare", "describeFerry", "loadBest", "rescue"}) {
            nothing(RICH, reader + " 3", INDEX);
            nothing(RICH, reader + " -1", INDEX);
        }
        nothing(RICH, "craterOf 0", STATE);
        nothing(RICH, "targetOf 1", STATE);
        nothing(RICH, "earliestArrival 3 0", INDEX);
        nothing(RICH, "earliestArrival 0 5", INDEX);
        nothing(RICH, "earliestArrival 0 4", ELEMENT);
        nothing(RICH, "earliestArrivalByHours 3 0", INDEX);
        nothing(RICH, "earliestArrivalByHours 0 5", INDEX);
        nothing(RICH, "earliestArrivalByHours 0 4", ELEMENT);
    }

    private static void moonsChangeNothing() {
        nothing(RICH, "addMoon 5 0 1 1", INDEX);
        nothing(RICH, "addMoon 0 5 1 1", INDEX);
        nothing(RICH, "addMoon 0 0 1 1", ARGUMENT);
        nothing(RICH, "addMoon 0 1 41 1", ARGUMENT);
        nothing(RICH, "addMoon 0 1 1 8", ARGUMENT);
        nothing(FULL, "addMoon 0 1 1 1", STATE);
        nothing(RICH, "board 3 4", INDEX);
        nothing(RICH, "board 2 7", ELEMENT);
        nothing(RICH, "board 2 0", STATE);
        nothing(RICH, "land 7", ELEMENT);
        nothing(RICH, "land 4", STATE);
        nothing(RICH, "land 0", REFUSED);
        nothing(RICH, "land 1", REFUSED);
        nothing(RICH, "loadBest 0", REFUSED);
        nothing(RICH, "loadBest 1", REFUSED);
        nothing(RICH, "bestLoad 0", STATE);
        nothing(RICH, "bestLoadByTable 0", STATE);
        nothing(RICH, "rescue 0", STATE);
        nothing(RICH, "rescue 2", STATE);
    }

    private static void moonReadersChangeNothing() {
        nothing(RICH, "moonAt 7", INDEX);
        nothing(RICH, "moonAt -1", INDEX);
        nothing(RICH, "ferryOf 7", ELEMENT);
        nothing(RICH, "ferryOf 4", STATE);
        nothing(RICH, "shoreOf 7", ELEMENT);
        nothing(RICH, "shoreOf 0", STATE);
        nothing(RICH, "phaseOf 7", ELEMENT);
        nothing(RICH, "fareOf 7", ELEMENT);
        nothing(RICH, "moonAtRank 7", ELEMENT);
    }

    private static void theRestChangesNothing() {
        nothing(RICH, "pass 0", ARGUMENT);
        nothing(RICH, "pass 49", ARGUMENT);
        nothing(RICH, "passageFerry 1", ELEMENT);
        nothing(RICH, "passageCrater 1", ELEMENT);
        nothing(RICH, "passageHour 1", ELEMENT);
        nothing(RICH, "append 31", ARGUMENT);
        nothing(RICH, "append 127", ARGUMENT);
        nothing(RICH + ", type ~~~~~~~~~~~~~~~~~~~~~~~~~~~~~~~~~~~~~~~~~~~~~~~~~~~~~~~~", "append 32", STATE);
        nothing(RICH, "lineAt 7", INDEX);
        for (String call : new String[] {"refusalReason", "errorPosition", "failedCommand"}) {
            nothing(FULL, call, ELEMENT);
        }
        nothing(FULL, "lineAt 0", INDEX);
        nothing(FULL, "restore", STATE);
        nothing("", "restore", STATE);
        nothing("", "undo", STATE);
        nothing("", "meanPhase", ARITHMETIC);
        nothing("save, type pass", "undo", STATE);
        nothing("crater 9, crater 9, undo, undo", "meanPhase", ARITHMETIC);
    }

    private static void keepsReason(String call, int reason) {
        nothingBut(RICH, call, REFUSED, List.of("refusalReason"));
        MoonFerryOffice x = office(RICH);
        Calls.answer(x, call);
        due(call + " " + x.refusalReason(), call + " " + reason);
    }

    private static void refusalsKeepOnlyReasons() {
        keepsReason("sail 2 4", 1);
        keepsReason("sail 1 0", 2);
        keepsReason("sail 2 3", 3);
        keepsReason("board 0 6", 4);
        keepsReason("board 2 6", 4);
        keepsReason("board 1 5", 5);
        keepsReason("board 2 2", 6);
        keepsReason("board 2 3", 7);
    }

    /** Behind "pass", the text that RICH begins. */
    private static void runKeepsOnly(String text, Class<?> exception, String kept, int value, boolean refuses) {
        String setup = RICH + (text.isEmpty() ? "" : ", type " + text);
        nothingBut(setup, "run", exception, List.of("append 120", kept, refuses ? "refusalReason" : ""));
        MoonFerryOffice x = office(setup);
        Calls.answer(x, "run");
        due(text + " " + Calls.answer(x, kept), text + " " + value);
        due(x.append('x'), 1);
    }

    private static void runKeepsOnlyWhatItSets() {
        runKeepsOnly("", ARGUMENT, "errorPosition", 4, false);
        runKeepsOnly(" 9;crater 1;x", ARGUMENT, "errorPosition", 16, false);
        runKeepsOnly(" 0;x", ARGUMENT, "errorPosition", 7, false);
        runKeepsOnly(" 0", STATE, "failedCommand", 0, false);
        runKeepsOnly(" 24;land 0;crater 1;load 2;moon 01 1 1;pass 0", STATE, "failedCommand", 5, false);
        runKeepsOnly(" 2;board 2 4;sail 2 0;pass 9;land 0;land 0", STATE, "failedCommand", 5, false);
        runKeepsOnly(" 1;load 1", STATE, "failedCommand", 1, false);
        runKeepsOnly(" 1;crater 1;sail 1 0", STATE, "failedCommand", 2, true);
        runKeepsOnly(" 1;crater 1;board 2 3;pass 0", STATE, "failedCommand", 2, true);
    }

    private static void first(String setup, String calls, Class<?> exception) {
        for (String call : calls.split(", ")) {
            due(call + " " + Calls.answer(office(setup), call), call + " " + exception);
        }
    }

    private static void watersInOrder() {
        // The depth is out of range, and there are 6 craters.
        first(FULL, "addCrater -1, addCrater 10", ARGUMENT);
        // No such crater; with it the same one, hours, sill, ten channels, or some of them.
        first(FULL, "addChannel 6 6 1 1, addChannel 0 6 0 1, addChannel -1 0 1 10, addChannel 4 6 1 1", INDEX);
        first(FULL, "addChannel 6 6 0 10, addChannel -1 -1 10 -1", INDEX);
        first(RICH, "addChannel 5 5 1 1, addChannel 0 5 0 1, addChannel 5 0 1 10, addChannel -1 5 0 -1", INDEX);
        // The same crater, hours or sill; with it ten channels, or a channel between these craters.
        first(FULL, "addChannel 4 4 1 1, addChannel 4 5 0 1, addChannel 4 5 10 1, addChannel 4 5 1 -1", ARGUMENT);
        first(FULL, "addChannel 4 5 1 10, addChannel 0 1 0 1, addChannel 1 0 1 10", ARGUMENT);
        first(RICH, "addChannel 0 1 0 1, addChannel 1 0 10 1, addChannel 0 1 1 -1, addChannel 1 0 1 10", ARGUMENT);
        // A channel that is not there, while a ferry is in another one.
        first(RICH, "removeChannel -1, removeChannel 4, removeChannel 10", INDEX);
        // No such crater, so that there is no channel and no way either.
        first(RICH, "channelBetween 5 5, channelBetween 4 5, channelBetween -1 4, channelBetween -1 -1", INDEX);
        first(RICH, "wayHours 5 5, wayHours 4 5, wayHours -1 4, wayHours -1 -1", INDEX);
        first(RICH, "wayHoursByTable 5 5, wayHoursByTable 4 5, wayHoursByTable -1 4, wayHoursByTable -1 -1", INDEX);
    }

    private static void ferriesInOrder() {
        // No such crater; with it the draught, the capacity, three ferries, or some of them.
        first("crater 9", "addFerry 1 0 1, addFerry -1 13 1, addFerry 1 1 0, addFerry 1 1 100, addFerry 1 0 0", INDEX);
        first(RICH, "addFerry 5 1 1, addFerry -1 13 1, addFerry 5 1 100, addFerry 5 0 0", INDEX);
        // The draught or the capacity, and three ferries.
        first(RICH, "addFerry 0 0 1, addFerry 0 13 1, addFerry 0 1 0, addFerry 0 1 100", ARGUMENT);
        // No such ferry or crater; with it the ferry at sea, no channel, the ferry stranded.
        first(RICH, "sail 3 5, sail 3 4, sail -1 0, sail 0 5, sail 0 -1, sail 1 5, sail 2 5, sail 2 -1", INDEX);
        // The ferry at sea; with it no channel, or a channel that is not open.
        first(RICH, "sail 0 4, sail 0 0, sail 0 2, sail 0 1", STATE);
        first("crater 6, crater 0, channel 0 1 9 6, ferry 0 12 1, pass 6, sail 0 1, pass 3", "sail 0 1, sail 0 0", STATE);
        // No such ferry or crater, so that it is neither in a crater nor at sea, nor could be anywhere.
        first(RICH, "craterOf 3, targetOf 3, bestLoad 3, bestLoadByTable -1, earliestArrival 3 4", INDEX);
        first(RICH, "earliestArrival 3 5, earliestArrival 0 5, earliestArrival 2 -1", INDEX);
        first(RICH, "earliestArrivalByHours 3 4, earliestArrivalByHours 3 5, earliestArrivalByHours 1 5", INDEX);
    }

    private static void moonsInOrder() {
        // No such crater; with it the same one, the weight, the phase, ten moons, or some of them.
        first(RICH, "addMoon 5 5 1 1, addMoon 5 0 0 1, addMoon 0 5 1 8, addMoon -1 -1 41 -1", INDEX);
        first(FULL, "addMoon 6 0 1 1, addMoon 0 -1 1 1, addMoon 6 6 41 8", INDEX);
        // The same crater, the weight or the phase, and ten moons.
        first(FULL, "addMoon 0 0 1 1, addMoon 0 1 0 1, addMoon 0 1 41 1, addMoon 0 1 1 -1, addMoon 0 1 1 8", ARGUMENT);
        // No such ferry; with it no such moon, a moon aboard, or a moon of phase 0.
        first(RICH, "board 3 7, board -1 -1, board 3 0, board 3 3, board 3 4", INDEX);
        // No such moon; with it a ferry at sea or stranded.
        first(RICH, "board 0 7, board 1 7, board 2 -1", ELEMENT);
        // A moon aboard; with it a ferry at sea or stranded, or one in another crater, or one that is too small.
        first(RICH, "board 0 0, board 0 1, board 1 1, board 1 0, board 2 0, board 2 1", STATE);
        first("crater 9, crater 9, ferry 0 1 9, ferry 0 1 1, moon 0 1 9 7, board 0 0, pass 24", "board 1 0, board 0 0",
                STATE);
        // No moon or one that waits, while ferries are at sea and stranded.
        first(RICH, "land 7, land -1, ferryOf 7, shoreOf 7", ELEMENT);
        first(RICH, "land 4, land 5, land 6", STATE);
        // No such ferry, so that it is neither at sea nor stranded.
        first(RICH, "loadBest 3, loadBest -1, rescue 3, rescue -1, bestLoad -1, bestLoadByTable 3", INDEX);
    }

    private static void textsInOrder() {
        // The character, and a full text.
        String full = "type ~~~~~~~~~~~~~~~~~~~~~~~~~~~~~~~~~~~~~~~~~~~~~~~~~~~~~~~~~~~~";
        first(full, "append 31, append 127, append 0, append 65535", ARGUMENT);
        first(full, "append 32, append 126", STATE);
        // Commands that would fail, in a text that is not a command text.
        first("", "text pass 0;x, text land 9;, text pass 0;pass 0;pas, text crater 1;sail 0 0;;", ARGUMENT);
    }
}
