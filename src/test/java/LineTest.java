/** Promises 54 to 58. */
public final class LineTest {
    private static final Class<IndexOutOfBoundsException> INDEX = IndexOutOfBoundsException.class;
    private static final Class<ArithmeticException> ARITHMETIC = ArithmeticException.class;

    public static void main(String[] args) {
        describeFerry();
        longNumbers();
        statistics();
        consistency();
        Check.end();
    }

    private static void described(MoonFerryOffice x, int ferry, String text) {
        Check.due("54 " + text, x.describeFerry(ferry), text.length());
        StringBuilder line = new StringBuilder();
        for (int i = 0; i < text.length(); i++) {
            line.append(x.lineAt(i));
        }
        Check.due("55 " + text, line.toString(), text);
        Check.fails("55 after " + text, INDEX, () -> x.lineAt(text.length()));
        Check.fails("55 before " + text, INDEX, () -> x.lineAt(-1));
    }

    private static void describeFerry() {
        MoonFerryOffice x = new MoonFerryOffice();
        for (int i = 0; i < 6; i++) {
            x.addCrater(i == 5 ? 0 : 9);
        }
        Check.fails("54 no ferry", INDEX, () -> x.describeFerry(0));
        x.addFerry(5, 2, 9);
        x.addFerry(4, 9, 9);
        described(x, 0, "0@5!");
        described(x, 1, "1@4");
        for (int i = 0; i < 10; i++) {
            x.addMoon(4, 3, 1, 1);
        }
        x.board(1, 9);
        described(x, 1, "1@4 9");
        x.board(1, 2);
        x.board(1, 5);
        described(x, 1, "1@4 2 5 9");
        x.addChannel(4, 3, 2, 9);
        x.sail(1, 3);
        described(x, 1, "1>3x2 2 5 9");
        x.pass(1);
        described(x, 1, "1>3x1 2 5 9");
        Check.fails("54 ferry 2", INDEX, () -> x.describeFerry(2));
        Check.fails("54 ferry -1", INDEX, () -> x.describeFerry(-1));
        Check.due("55 left", x.lineAt(1), '>');
        x.undo();
        Check.due("55 not undone", x.lineAt(4), '1');
        described(x, 0, "0@5!");
        x.pass(2);
        described(x, 0, "0@5");
    }

    private static void longNumbers() {
        MoonFerryOffice x = new MoonFerryOffice();
        x.addCrater(9);
        x.addCrater(9);
        x.addFerry(0, 1, 99);
        x.addFerry(1, 1, 99);
        x.addChannel(0, 1, 1, 9);
        int moon = x.addMoon(0, 1, 1, 4);
        // Each moon is taken over and pays, so that the next one gets the next number.
        for (int i = 0; i < 52; i++) {
            x.board(i % 2, moon);
            x.sail(i % 2, 1 - i % 2);
            x.pass(1);
            x.land(moon);
            x.sail(i % 2, i % 2);
            x.pass(23);
            moon = x.addMoon(1 - i % 2, i % 2, 1, 4);
            Check.due("24 number", moon, i + 1);
        }
        x.board(0, 52);
        x.addMoon(0, 1, 1, 4);
        x.board(0, 53);
        described(x, 0, "0@0 52 53");
    }

    private static void statistics() {
        MoonFerryOffice x = new MoonFerryOffice();
        Check.fails("56 none", ARITHMETIC, x::meanPhase);
        x.addCrater(9);
        x.addCrater(9);
        x.addFerry(0, 1, 7);
        x.addMoon(0, 1, 2, 7);
        Check.due("56 one", x.meanPhase(), 7.0);
        x.addMoon(0, 1, 3, 1);
        x.addMoon(0, 1, 1, 2);
        Check.due("56 three", x.meanPhase(), 10.0 / 3.0);
        Check.due("57 none", x.loadShare(0), 0f);
        x.board(0, 0);
        Check.due("57 two of 7", x.loadShare(0), 2f / 7f);
        x.board(0, 1);
        Check.due("57 five of 7", x.loadShare(0), 5f / 7f);
        Check.fails("57 ferry 1", INDEX, () -> x.loadShare(1));
        Check.fails("57 ferry -1", INDEX, () -> x.loadShare(-1));
    }

    private static void consistency() {
        MoonFerryOffice x = new MoonFerryOffice();
        for (int i = 0; i < 6; i++) {
            x.addCrater(i);
            Check.due("58 craters", x.isConsistent(), true);
        }
        for (int i = 1; i < 6; i++) {
            x.addChannel(i - 1, i, i, 9 - i);
            x.addMoon(i, 0, 7 * i, i);
            Check.due("58 channels", x.isConsistent(), true);
        }
        for (int i = 0; i < 3; i++) {
            x.addFerry(2 * i, 3 * i + 1, 20 * i + 10);
            Check.due("58 ferries", x.isConsistent(), true);
        }
        for (int i = 0; i < 30; i++) {
            x.pass(1);
            Check.due("58 hour " + i, x.isConsistent(), true);
        }
    }
}
