import java.util.NoSuchElementException;

/** Promises 59 to 61. */
public final class UndoTest {
    private static final Class<IllegalStateException> STATE = IllegalStateException.class;
    private static final Class<NoSuchElementException> ELEMENT = NoSuchElementException.class;

    public static void main(String[] args) {
        eight();
        everyChange();
        failuresAreNone();
        snapshot();
        snapshotAndUndo();
        undoneOneByOne();
        Check.end();
    }

    private static void eight() {
        MoonFerryOffice x = new MoonFerryOffice();
        for (int i = 1; i <= 10; i++) {
            x.pass(i);
        }
        Check.due("41 55", x.hour(), 55);
        int hour = 55;
        for (int i = 10; i > 2; i--) {
            hour -= i;
            Check.due("59 undo", x.undo(), i - 3);
            Check.due("41 undone", x.hour(), hour);
        }
        Check.fails("59 no ninth", STATE, x::undo);
        Check.due("41 left", x.hour(), 3);
        x.pass(1);
        Check.due("59 new change", x.undo(), 0);
    }

    private static void everyChange() {
        MoonFerryOffice x = new MoonFerryOffice();
        x.addCrater(9);
        x.addCrater(0);
        x.addChannel(0, 1, 3, 9);
        x.addFerry(0, 2, 50);
        x.addMoon(0, 1, 5, 4);
        x.undo();
        Check.due("31 undone", x.moonCount(), 0);
        Check.due("24 the number again", x.addMoon(0, 1, 5, 4), 0);
        x.board(0, 0);
        x.undo();
        Check.due("34 undone", x.shoreOf(0), 0);
        x.loadBest(0);
        x.undo();
        Check.due("34 undone", x.shoreOf(0), 0);
        x.board(0, 0);
        x.sail(0, 1);
        x.undo();
        Check.due("16 undone", x.isAtSea(0), false);
        x.sail(0, 1);
        x.pass(3);
        Check.due("26 fare", x.land(0), 15);
        x.undo();
        Check.due("33 undone", x.ferryOf(0), 0);
        Check.due("48 undone", x.coins(), 0);
        x.pass(9);
        Check.due("30 rescue", x.rescue(0), 1);
        x.undo();
        Check.due("33 undone", x.ferryOf(0), 0);
        Check.due("48 undone", x.coins(), 0);
        x.removeChannel(0);
        x.undo();
        Check.due("10 undone", x.wayHours(0, 1), 3);
        Check.due("41 before", x.hour(), 12);
        x.undo();
        Check.due("41 undone", x.hour(), 3);
    }

    private static void failuresAreNone() {
        MoonFerryOffice x = new MoonFerryOffice();
        x.addCrater(1);
        Check.fails("59 failing", IllegalArgumentException.class, () -> x.addCrater(-1));
        Check.fails("59 failing", IllegalArgumentException.class, () -> x.pass(0));
        Check.fails("59 failing", IllegalArgumentException.class, x::run);
        x.append('c');
        x.save();
        x.hour();
        Check.due("59 one", x.undo(), 0);
    }

    private static void snapshot() {
        MoonFerryOffice x = new MoonFerryOffice();
        Check.fails("61 none", STATE, x::restore);
        x.addCrater(1);
        x.addCrater(2);
        x.addMoon(0, 1, 1, 1);
        Check.due("60 one moon", x.save(), 1);
        x.addMoon(0, 1, 1, 1);
        x.pass(5);
        Check.due("61 one moon", x.restore(), 1);
        Check.due("41 restored", x.hour(), 0);
        Check.fails("59 after a restore", STATE, x::undo);
        Check.due("24 number restored", x.addMoon(0, 1, 1, 1), 1);
        Check.due("61 again", x.restore(), 1);
        x.addMoon(0, 1, 1, 1);
        Check.due("60 replaced", x.save(), 2);
        x.addMoon(0, 1, 1, 1);
        Check.due("61 replaced", x.restore(), 2);
    }

    private static void snapshotAndUndo() {
        MoonFerryOffice x = new MoonFerryOffice();
        x.pass(1);
        x.save();
        x.pass(2);
        Check.due("59 after a save", x.undo(), 1);
        Check.due("59 before a save", x.undo(), 0);
        Check.due("41 before a save", x.hour(), 0);
        x.restore();
        Check.due("41 snapshot kept", x.hour(), 1);
        Check.fails("43 nothing", ELEMENT, () -> x.passageHour(0));
    }

    private static void undoneOneByOne() {
        String start = "text crater 9;crater 8;crater 7;channel 01 2 9;channel 12 3 8, "
                + "text channel 02 1 7;ferry 0 7 50;ferry 1 8 60;ferry 2 2 70, "
                + "text moon 01 11 3;moon 12 12 4;moon 02 13 5;moon 21 14 6";
        String[] changes = {"load 0", "sail 0 1", "pass 1", "pass 1", "land 0", "sail 1 2", "land 2", "pass 48"};
        String[] others = {"removeChannel 0", "addChannel 1 0 9 1", "removeChannel 0", "addMoon 0 1 40 1"};
        undone(start, changes);
        undone(start + ", " + String.join(", ", changes), others);
    }

    private static void undone(String start, String[] changes) {
        for (int left = 0; left < changes.length; left++) {
            String kept = start;
            String all = start;
            for (int i = 0; i < changes.length; i++) {
                all += ", " + changes[i];
                kept += i < left ? ", " + changes[i] : "";
            }
            all += ", undo".repeat(changes.length - left);
            Check.due("59 undone to " + kept, Portrait.of(Calls.office(all)), Portrait.of(Calls.office(kept)));
        }
    }
}
