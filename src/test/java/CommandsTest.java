import java.util.NoSuchElementException;

/** Promises 50 to 53. */
public final class CommandsTest {
    private static final Class<IllegalArgumentException> ARGUMENT = IllegalArgumentException.class;
    private static final Class<IllegalStateException> STATE = IllegalStateException.class;
    private static final Class<NoSuchElementException> ELEMENT = NoSuchElementException.class;

    public static void main(String[] args) {
        append();
        carriesOut();
        errors();
        failures();
        oneChange();
        Check.end();
    }

    private static void write(MoonFerryOffice x, String text) {
        for (int i = 0; i < text.length(); i++) {
            x.append(text.charAt(i));
        }
    }

    private static int run(MoonFerryOffice x, String text) {
        write(x, text);
        return x.run();
    }

    private static void append() {
        MoonFerryOffice x = new MoonFerryOffice();
        char[] wrong = {0, 9, 31, 127, 255, 8364, 65535};
        for (char sign : wrong) {
            Check.fails("50 sign " + (int) sign, ARGUMENT, () -> x.append(sign));
        }
        Check.due("50 first", x.append((char) 32), 1);
        Check.due("50 second", x.append((char) 126), 2);
        for (int i = 3; i <= 60; i++) {
            Check.due("50 " + i, x.append('a'), i);
        }
        Check.fails("50 full", STATE, () -> x.append('a'));
        Check.fails("50 full, sign 31", ARGUMENT, () -> x.append((char) 31));
        Check.fails("51 not a text", ARGUMENT, x::run);
        Check.due("50 empty again", x.append('a'), 1);
    }

    private static void carriesOut() {
        MoonFerryOffice x = new MoonFerryOffice();
        Check.due("51 craters", run(x, "crater 9;crater 8;crater 0;channel 01 3 9;ferry 0 9 40"), 5);
        Check.due("51 depth", x.depthOf(1), 8);
        Check.due("51 channel", x.wayHours(0, 1), 3);
        Check.due("51 capacity", run(x, "moon 01 40 4;moon 10 1 3;moon 01 05 7;board 0 00"), 4);
        Check.due("51 aboard", x.ferryOf(0), 0);
        Check.due("51 phase", x.phaseOf(2), 7);
        Check.due("51 load", x.loadShare(0) == 1f, true);
        Check.due("51 land", run(x, "land 0;load 0;sail 0 1;pass 03"), 4);
        Check.due("51 arrived", x.craterOf(0), 1);
        Check.due("51 land 0", run(x, "land 0"), 1);
        Check.due("51 fares", x.fareTotal(), 15);
        MoonFerryOffice y = new MoonFerryOffice();
        Check.due("51 eight", run(y, "crater 1;crater 2;ferry 0 2 1;pass 12;rescue 0;pass 9"), 6);
        Check.due("51 hours", y.hour(), 21);
        Check.fails("52 none", ELEMENT, x::errorPosition);
        Check.fails("53 none", ELEMENT, x::failedCommand);
    }

    private static void error(String text, int position) {
        MoonFerryOffice x = new MoonFerryOffice();
        write(x, text);
        Check.fails("51 '" + text + "'", ARGUMENT, x::run);
        Check.due("52 '" + text + "'", x.errorPosition(), position);
        Check.fails("53 '" + text + "'", ELEMENT, x::failedCommand);
        Check.due("50 after '" + text + "'", x.append('x'), 1);
        Check.due("5 after '" + text + "'", x.craterCount(), 0);
    }

    private static void errors() {
        error("", 0);
        error(" ", 0);
        error("Crater 1", 0);
        error("c", 1);
        error("cx", 1);
        error("cr", 2);
        error("ch", 2);
        error("chx", 2);
        error("crater", 6);
        error("crater  1", 7);
        error("crater 1;", 9);
        error("crater 1; crater 1", 9);
        error("crater 1 ", 8);
        error("crater 12", 8);
        error("crater 1;;", 9);
        error("crater 1;l", 10);
        error("crater 1;lo", 11);
        error("crater 1;lx", 10);
        error("crater 1;laod 1", 11);
        error("channel 1 2 3 4", 9);
        error("channel 12 34 5", 12);
        error("ferry 0 123 4", 10);
        error("ferry 0 12 123", 13);
        error("ferry 0 1", 9);
        error("moon 12 3  4", 10);
        error("moon 1", 6);
        error("sail 1", 6);
        error("sail 1 x", 7);
        error("board 1 1x", 9);
        error("land x", 5);
        error("land 123", 7);
        error("load 12", 6);
        error("rescue ", 7);
        error("pass 1/", 6);
        error("pass :", 5);
        error("pass 123", 7);
        error("undo", 0);
        error("land 0;land 0;land 0;land 0;land 0;land 0;land 0;land 0;land", 60);
        error("crater 1,crater 1", 8);
    }

    private static void failures() {
        MoonFerryOffice x = new MoonFerryOffice();
        Check.fails("51 failing", STATE, () -> run(x, "crater 1;pass 0;crater 2"));
        Check.due("53 pass 0", x.failedCommand(), 1);
        Check.fails("52 left", ELEMENT, x::errorPosition);
        Check.due("5 none", x.craterCount(), 0);
        Check.fails("51 error", ARGUMENT, () -> run(x, "crater"));
        Check.due("53 left", x.failedCommand(), 1);
        Check.due("52 set", x.errorPosition(), 6);
        String text = "crater 9;crater 9;ferry 0 9 9;moon 01 9 0;pass 2;board 0 0";
        Check.fails("51 refused", STATE, () -> run(x, text));
        Check.due("53 board", x.failedCommand(), 5);
        Check.due("52 left again", x.errorPosition(), 6);
        Check.due("42 kept", x.refusalReason(), 7);
        Check.due("41 none", x.hour(), 0);
        Check.due("31 none", x.moonCount(), 0);
        Check.fails("59 no change", STATE, x::undo);
        Check.due("50 cleared", x.append('c'), 1);
        Check.due("51 good", run(x, "rater 9;crater 9;moon 01 9 1"), 3);
        Check.due("24 number taken back", x.moonAt(0), 0);
        Check.due("53 left by a success", x.failedCommand(), 5);
        Check.due("52 left by a success", x.errorPosition(), 6);
        failEach();
    }

    private static void failEach() {
        String[] texts = {"channel 02 1 1", "channel 00 1 1", "channel 01 0 1", "ferry 2 1 1",
            "ferry 0 13 1", "moon 02 1 1", "moon 01 41 1", "moon 01 1 8", "sail 1 0", "sail 0 2",
            "board 1 0", "board 0 1", "land 1", "land 0", "load 1", "rescue 1", "rescue 0", "pass 49",
            "sail 0 1", "board 0 0"};
        for (String text : texts) {
            MoonFerryOffice x = new MoonFerryOffice();
            run(x, "crater 9;crater 0;ferry 0 9 9;moon 10 1 1");
            Check.fails("51 " + text, STATE, () -> run(x, "crater 1;" + text.replace('2', '3')));
            Check.due("53 " + text, x.failedCommand(), 1);
            Check.due("5 " + text, x.craterCount(), 2);
        }
    }

    private static void oneChange() {
        MoonFerryOffice x = new MoonFerryOffice();
        run(x, "crater 1;crater 2;crater 3");
        run(x, "pass 1");
        Check.due("59 second", x.undo(), 1);
        Check.due("59 first", x.undo(), 0);
        Check.due("5 none", x.craterCount(), 0);
        write(x, "pass ");
        x.addCrater(1);
        x.undo();
        Check.due("50 text is not undone", x.append('4'), 6);
        x.save();
        x.append('8');
        x.restore();
        Check.due("51 text is not saved", x.run(), 1);
        Check.due("41 48", x.hour(), 48);
    }
}
