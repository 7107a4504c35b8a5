/** The sentences on commands in the section "Terms" and in promises 50 to 53, with their edges. */
public final class CommandsEdgesTest extends Edges {
    private static final String EIGHT_PASSES = "pass 1;pass 1;pass 1;pass 1;pass 1;pass 1;pass 1;pass 1";

    /** Ferry 0 and moon 0 in crater 0, ferry 1 stranded in crater 2. */
    private static final String PORT = "crater 9, crater 9, crater 0, channel 0 1 3 9, ferry 0 9 40, ferry 2 9 40, "
            + "moon 0 1 10 4";

    public static void main(String[] args) {
        section("Terms: Commands");
        texts();
        forms();
        parameters();
        errorPositions();
        append();
        appendThrows();
        run();
        runKeeps();
        runThrows();
        errorPosition();
        failedCommand();
        end(5);
    }

    private static int type(MoonFerryOffice x, String text) {
        int length = 0;
        for (int i = 0; i < text.length(); i++) {
            length = x.append(text.charAt(i));
        }
        return length;
    }

    private static int run(MoonFerryOffice x, String text) {
        type(x, text);
        return x.run();
    }

    private static void wrong(String text, int position) {
        MoonFerryOffice x = office("");
        type(x, text);
        fails(ARGUMENT, x::run);
        due(text + "|" + x.errorPosition(), text + "|" + position);
        fails(ELEMENT, x::failedCommand);
        due(x.append('p'), 1);
    }

    /** Every beginning of the text is too short, and every character of it is needed. */
    private static void form(String setup, String text) {
        for (int i = 0; i < text.length(); i++) {
            String start = text.substring(0, i);
            wrong(start, i);
            wrong(start + "~", i);
            wrong(start + "~" + text.substring(i + 1), i);
            wrong("pass 1;" + start, 7 + i);
        }
        wrong(text + "~", text.length());
        wrong(text + " ", text.length());
        wrong(text + ";", text.length() + 1);
        due(run(office(setup), text), 1);
        due(run(office(setup), "pass 1;pass 23;" + text + ";pass 1"), 4);
    }

    private static void texts() {
        says("The command text is a buffer of at most 60 characters.", () -> {
            MoonFerryOffice x = office("crater 9");
            due(type(x, EIGHT_PASSES), 55);
            due(type(x, ";pas"), 59);
            due(x.append('s'), 60);
            fails(STATE, () -> x.append(' '));
            fails(ARGUMENT, x::run);
            due(x.errorPosition(), 60);
            due(run(x, EIGHT_PASSES.substring(0, 48) + ";ferry 0 1 1"), 8);
            due(x.hour(), 7);
        });
        says("A command text has the following form, where braces mean zero or more repetitions and brackets an "
                + "optional part:", () -> {
            due(run(office(""), "pass 1"), 1);
            due(run(office(""), "pass 01;pass 1"), 2);
            wrong("undo", 0);
            wrong("hour", 0);
        });
        says("text = command { \";\" command }", () -> {
            wrong("", 0);
            wrong(" ", 0);
            wrong(";", 0);
            wrong(";pass 1", 0);
            wrong("pass 1;", 7);
            wrong("pass 1;;pass 1", 7);
            wrong("pass 1; pass 1", 7);
            wrong("pass 1 ;pass 1", 6);
            wrong("pass 1,pass 1", 6);
            wrong("pass 1pass 1", 6);
            wrong(" pass 1", 0);
            due(run(office(""), "pass 1"), 1);
            due(run(office(""), "pass 1;pass 1"), 2);
            due(run(office(""), EIGHT_PASSES), 8);
        });
    }

    private static void forms() {
        says("\"crater \" digit", () -> {
            form("", "crater 0");
            form("", "crater 9");
            wrong("crater 10", 8);
        });
        says("\"channel \" digit digit \" \" digit \" \" digit", () -> {
            form("crater 9, crater 9", "channel 01 9 0");
            wrong("channel 0 1 9 0", 9);
            wrong("channel 012 9 0", 10);
            wrong("channel 01 10 0", 12);
            wrong("channel 01 9 00", 14);
        });
        says("\"ferry \" digit \" \" number \" \" number", () -> {
            form("crater 9", "ferry 0 9 4");
            due(run(office("crater 9"), "ferry 0 12 99"), 1);
            due(run(office("crater 9"), "ferry 0 09 01"), 1);
            wrong("ferry 00 9 4", 7);
            wrong("ferry 0 123 4", 10);
            wrong("ferry 0 12 345", 13);
        });
        says("\"moon \" digit digit \" \" number \" \" digit", () -> {
            form("crater 9, crater 9", "moon 01 5 7");
            due(run(office("crater 9, crater 9"), "moon 10 40 0"), 1);
            wrong("moon 0 1 5 7", 6);
            wrong("moon 012 5 7", 7);
            wrong("moon 01 123 7", 10);
            wrong("moon 01 5 77", 11);
        });
        says("\"sail \" digit \" \" digit", () -> {
            form(PORT, "sail 0 1");
            wrong("sail 00 1", 6);
            wrong("sail 0 11", 8);
        });
        says("\"board \" digit \" \" number", () -> {
            form(PORT, "board 0 0");
            due(run(office(PORT), "board 0 00"), 1);
            wrong("board 00 0", 7);
            wrong("board 0 000", 10);
        });
        says("\"land \" number", () -> {
            form(PORT + ", board 0 0", "land 0");
            due(run(office(PORT + ", board 0 0"), "land 00"), 1);
            wrong("land 000", 7);
        });
        says("\"load \" digit", () -> {
            form(PORT, "load 0");
            wrong("load 00", 6);
        });
        says("\"rescue \" digit", () -> {
            form("crater 0, ferry 0 9 1", "rescue 0");
            wrong("rescue 00", 8);
        });
        says("\"pass \" number", () -> {
            form("", "pass 1");
            due(run(office(""), "pass 48"), 1);
            wrong("pass 048", 7);
        });
        says("number = digit [ digit ]", () -> {
            MoonFerryOffice x = office("");
            Calls.make(x, "text pass 9, text pass 09, text pass 10, text pass 48");
            due(x.hour(), 76);
            wrong("pass a", 5);
            wrong("pass 1a", 6);
            wrong("pass /", 5);
            wrong("pass :", 5);
            wrong("pass 1/", 6);
            wrong("pass 1:", 6);
            wrong("pass -1", 5);
            wrong("pass 111", 7);
        });
    }

    private static void parameters() {
        says("The commands call addCrater(), addChannel(), addFerry(), addMoon(), sail(), board(), land(), loadBest(), "
                + "rescue() and pass(), with the numbers of the command as parameters in their order.", () -> {
            same("", "crater 7", "addCrater 7");
            same("crater 1, crater 2, crater 3", "channel 20 3 4", "addChannel 2 0 3 4");
            same("crater 9, crater 9", "ferry 1 2 34", "addFerry 1 2 34");
            same("crater 9, crater 9", "ferry 1 12 3", "addFerry 1 12 3");
            same("crater 9, crater 9", "moon 10 23 4", "addMoon 1 0 23 4");
            same(PORT, "sail 0 1", "sail 0 1");
            same(PORT, "board 0 00", "board 0 0");
            same(PORT + ", board 0 0, sail 0 1, pass 3", "land 0", "land 0");
            same(PORT, "load 0", "loadBest 0");
            same(PORT + ", pass 6", "rescue 1", "rescue 1");
            same(PORT, "pass 31", "pass 31");
            same(PORT + ", moon 0 1 7 1, moon 0 1 8 1", "board 0 2", "board 0 2");
            same(PORT + ", moon 0 1 7 1, moon 0 1 8 1, load 0", "land 2", "land 2");
        });
    }

    private static void same(String setup, String text, String call) {
        MoonFerryOffice x = office(setup);
        due(run(x, text), 1);
        MoonFerryOffice y = office(setup + (setup.isEmpty() ? "" : ", ") + call);
        due(Portrait.of(x), Portrait.of(y));
    }

    private static void errorPositions() {
        says("The error position of a text is the index of the first character that cannot continue any command text.",
                () -> {
            wrong("x", 0);
            wrong("crater x", 7);
            wrong("crater 1x", 8);
            wrong("crater 12", 8);
            wrong("crater 1;x", 9);
            wrong("crater 1;crater x", 16);
            wrong("crxtxr x", 2);
            wrong("pass 0;x", 7);
            wrong(EIGHT_PASSES + ";pas~", 59);
            wrong(EIGHT_PASSES + "~    ", 55);
        });
        says("If every character can, the error position is the length of the text.", () -> {
            wrong("", 0);
            wrong("p", 1);
            wrong("crater ", 7);
            wrong("crater 1;", 9);
            wrong("channel 01", 10);
            wrong("crater 1;c", 10);
            wrong(EIGHT_PASSES + ";pass", 60);
        });
        says("Keywords are matched character by character.", () -> {
            wrong("c", 1);
            wrong("ca", 1);
            wrong("cr", 2);
            wrong("ch", 2);
            wrong("cha", 3);
            wrong("cra", 3);
            wrong("crannel 01 1 1", 3);
            wrong("chater 1", 3);
            wrong("l", 1);
            wrong("la", 2);
            wrong("lo", 2);
            wrong("lond 1", 2);
            wrong("laad 1", 2);
            wrong("loan 1", 3);
            wrong("Pass 1", 0);
            wrong("pasS 1", 3);
            wrong("crater1", 6);
            wrong("craters 1", 6);
            wrong("pass  1", 5);
        });
    }

    private static void append() {
        section("Promise 50: append");
        says("Appends a character to the command text.", () -> {
            MoonFerryOffice x = office("");
            due(x.append('p'), 1);
            due(x.append('a'), 2);
            type(x, "ss 7");
            due(x.run(), 1);
            due(x.hour(), 7);
        });
        says("Returns the length of the command text after the call.", () -> {
            MoonFerryOffice x = office("");
            for (int i = 1; i <= 60; i++) {
                due(x.append((char) (31 + i)), i);
            }
        });
    }

    private static void appendThrows() {
        says("Throws `IllegalArgumentException` if the code of the character is not from 32 to 126", () -> {
            MoonFerryOffice x = office("");
            for (int code : new int[] {0, 10, 31, 127, 128, 255, 256, 32767, 65535}) {
                fails(ARGUMENT, () -> x.append((char) code));
            }
            due(x.append((char) 32), 1);
            due(x.append((char) 126), 2);
            type(x, EIGHT_PASSES + "   ");
            fails(ARGUMENT, () -> x.append((char) 31));
            fails(ARGUMENT, () -> x.append((char) 127));
        });
        says("Throws `IllegalStateException` if the command text has 60 characters", () -> {
            MoonFerryOffice x = office("");
            due(type(x, EIGHT_PASSES + "    "), 59);
            due(x.append(' '), 60);
            fails(STATE, () -> x.append(' '));
            fails(STATE, () -> x.append((char) 126));
            fails(ARGUMENT, x::run);
            due(x.errorPosition(), 55);
            due(x.append(' '), 1);
        });
    }

    private static void run() {
        section("Promise 51: run");
        says("Parses the command text and carries out its commands in order.", () -> {
            MoonFerryOffice x = office("");
            due(run(x, "crater 9;crater 8;channel 01 2 9;ferry 0 9 5;moon 01 5 4"), 5);
            due(run(x, "board 0 0;sail 0 1;pass 2;land 0"), 4);
            due(x.depthOf(1), 8);
            due(x.fareTotal(), 10);
            due(x.passageHour(0), 2);
        });
        says("Either all commands are carried out, or none.", () -> {
            // Each command would change something, and the last one fails.
            String text = "pass 24;load 0;sail 0 1;pass 03;land 0;moon 01 1 1;sail 0 1";
            MoonFerryOffice x = office(PORT + ", save");
            type(x, text);
            fails(STATE, x::run);
            due(Portrait.of(x), Portrait.of(office(PORT)));
            due(x.addMoon(0, 1, 1, 1), 1);
            MoonFerryOffice y = office(PORT);
            due(run(y, text.substring(0, text.lastIndexOf(';'))), 6);
            due(y.fareTotal(), 12);
        });
        says("The command text is empty after the call, also if an exception is thrown.", () -> {
            MoonFerryOffice x = office("");
            due(run(x, "pass 1"), 1);
            due(x.append('x'), 1);
            fails(ARGUMENT, x::run);
            due(type(x, "pass 0"), 6);
            fails(STATE, x::run);
            due(x.append('p'), 1);
            due(run(x, "ass 1"), 1);
            fails(ARGUMENT, x::run);
            due(x.errorPosition(), 0);
        });
        says("Returns the number of commands.", () -> {
            for (int count = 1; count <= 8; count++) {
                due(run(office(""), EIGHT_PASSES.substring(0, 7 * count - 1)), count);
            }
        });
    }

    private static void runKeeps() {
        says("The first command whose method would throw an exception is the failed command.", () -> {
            MoonFerryOffice x = office("");
            dueFailed(x, "pass 0", 0);
            dueFailed(x, "pass 1;pass 49;pass 0;land 0", 1);
            dueFailed(x, "pass 1;pass 1;pass 1;pass 1;pass 1;pass 1;pass 1;pass 0", 7);
            due(run(x, "crater 1;crater 1;crater 1;crater 1;crater 1;crater 1"), 6);
            dueFailed(x, "crater 1", 0);
            String[] failing = {"channel 03 1 1", "channel 00 1 1", "channel 01 0 1", "channel 10 1 1", "ferry 3 1 1",
                "ferry 0 13 1", "ferry 0 1 00", "moon 03 1 1", "moon 00 1 1", "moon 01 41 1", "moon 01 1 8", "sail 2 0",
                "sail 0 3", "sail 0 2", "board 2 0", "board 0 1", "board 1 0", "land 1", "land 0", "load 2", "load 1",
                "rescue 2", "rescue 0", "pass 00", "pass 49"};
            for (String text : failing) {
                dueFailed(office(PORT), "pass 12;" + text + ";pass 0", 1);
            }
        });
        says("If it is refused with a reason, the reason is kept.", () -> {
            dueReason("sail 0 2", 1);
            dueReason("channel 20 1 9;sail 1 0", 2);
            dueReason("channel 12 1 0;ferry 1 9 1;sail 2 2", 3);
            dueReason("board 1 0", 4);
            dueReason("moon 20 1 1;board 1 1", 5);
            dueReason("ferry 0 9 9;board 2 0", 6);
            dueReason("moon 01 1 0;board 0 1", 7);
            MoonFerryOffice x = office(PORT);
            dueFailed(x, "board 0 0;sail 0 1;land 0", 2);
            dueFailed(x, "sail 0 1;load 0", 1);
            dueFailed(x, "sail 0 1;sail 0 1", 1);
            dueFailed(x, "board 0 0;board 0 0", 1);
            fails(ELEMENT, x::refusalReason);
        });
    }

    private static void dueFailed(MoonFerryOffice x, String text, int failed) {
        type(x, text);
        fails(STATE, x::run);
        due(text + "|" + x.failedCommand(), text + "|" + failed);
    }

    private static void dueReason(String text, int reason) {
        MoonFerryOffice x = office(PORT);
        type(x, text);
        fails(STATE, x::run);
        due(text + "|" + x.refusalReason(), text + "|" + reason);
        due(Portrait.of(x), Portrait.of(office(PORT)));
    }

    private static void runThrows() {
        says("Throws `IllegalArgumentException` if the text is not a command text;", () -> {
            MoonFerryOffice x = office("");
            fails(ARGUMENT, x::run);
            type(x, "pass 1;");
            fails(ARGUMENT, x::run);
            // Also if a command before the error would fail.
            type(x, "pass 0;land 5;x");
            fails(ARGUMENT, x::run);
            due(x.hour(), 0);
        });
        says("the error position is set and the failed command is left as it is", () -> {
            MoonFerryOffice x = office("");
            type(x, "pass 0;x");
            fails(ARGUMENT, x::run);
            due(x.errorPosition(), 7);
            fails(ELEMENT, x::failedCommand);
            dueFailed(x, "pass 1;pass 0", 1);
            type(x, "pass");
            fails(ARGUMENT, x::run);
            due(x.errorPosition(), 4);
            due(x.failedCommand(), 1);
        });
        says("Throws `IllegalStateException` if a command fails;", () -> {
            MoonFerryOffice x = office(PORT);
            for (String text : new String[] {"pass 0", "sail 3 0", "sail 0 2", "land 0", "land 9", "board 0 9"}) {
                type(x, text);
                fails(STATE, x::run);
            }
            due(x.undo(), 6);
        });
        says("the failed command is set and the error position is left as it is", () -> {
            MoonFerryOffice x = office("");
            dueFailed(x, "pass 1;pass 0", 1);
            fails(ELEMENT, x::errorPosition);
            type(x, "pas");
            fails(ARGUMENT, x::run);
            dueFailed(x, "pass 0", 0);
            due(x.errorPosition(), 3);
        });
    }

    private static void errorPosition() {
        section("Promise 52: errorPosition");
        says("Returns the error position that was set last.", () -> {
            MoonFerryOffice x = office("");
            type(x, "land x");
            fails(ARGUMENT, x::run);
            due(x.errorPosition(), 5);
            type(x, "l");
            fails(ARGUMENT, x::run);
            due(x.errorPosition(), 1);
            run(x, "pass 1");
            due(x.errorPosition(), 1);
            Calls.make(x, "save, pass 1, undo, restore");
            due(x.errorPosition(), 1);
        });
        says("Returns the error position.", () -> {
            wrong("", 0);
            wrong(EIGHT_PASSES + ";pass", 60);
        });
        says("Throws `NoSuchElementException` if no error position was set", () -> {
            MoonFerryOffice x = office("");
            fails(ELEMENT, x::errorPosition);
            run(x, "pass 1");
            dueFailed(x, "pass 0", 0);
            type(x, "x");
            fails(ELEMENT, x::errorPosition);
        });
    }

    private static void failedCommand() {
        section("Promise 53: failedCommand");
        says("Returns the index of the failed command of the latest run in which a command failed.", () -> {
            MoonFerryOffice x = office("");
            dueFailed(x, "pass 1;pass 1;pass 0", 2);
            dueFailed(x, "pass 0", 0);
            dueFailed(x, "pass 1;pass 0", 1);
            run(x, "pass 1");
            due(x.failedCommand(), 1);
            Calls.make(x, "save, pass 1, undo, restore");
            due(x.failedCommand(), 1);
        });
        says("Returns the index, from 0.", () -> {
            dueFailed(office(""), "pass 0", 0);
            dueFailed(office(""), "pass 1;pass 1;pass 1;pass 1;pass 1;pass 1;pass 1;pass 0", 7);
        });
        says("Throws `NoSuchElementException` if no command has failed", () -> {
            MoonFerryOffice x = office("");
            fails(ELEMENT, x::failedCommand);
            run(x, "pass 1");
            fails(ARGUMENT, x::run);
            fails(ARGUMENT, () -> x.pass(0));
            fails(ELEMENT, x::failedCommand);
        });
    }
}
