import java.util.NoSuchElementException;

/** Promises 1 to 13. */
public final class WatersTest {
    private static final Class<IndexOutOfBoundsException> INDEX = IndexOutOfBoundsException.class;
    private static final Class<IllegalArgumentException> ARGUMENT = IllegalArgumentException.class;
    private static final Class<IllegalStateException> STATE = IllegalStateException.class;
    private static final Class<NoSuchElementException> ELEMENT = NoSuchElementException.class;

    public static void main(String[] args) {
        newObject();
        addCrater();
        addChannel();
        removeChannel();
        readers();
        tide();
        ways();
        nets();
        Check.end();
    }

    private static MoonFerryOffice withCraters(int count) {
        MoonFerryOffice x = new MoonFerryOffice();
        for (int i = 0; i < count; i++) {
            x.addCrater(i);
        }
        return x;
    }

    private static void newObject() {
        MoonFerryOffice x = new MoonFerryOffice();
        Check.due("1 craterCount", x.craterCount(), 0);
        Check.due("1 channelCount", x.channelCount(), 0);
        Check.due("1 moonCount", x.moonCount(), 0);
        Check.due("1 hour", x.hour(), 0);
        Check.due("1 passageCount", x.passageCount(), 0);
        Check.due("1 strandingCount", x.strandingCount(), 0);
        Check.due("1 coins", x.coins(), 0);
        Check.due("1 fareTotal", x.fareTotal(), 0);
        Check.due("1 isConsistent", x.isConsistent(), true);
        Check.fails("1 isAtSea(0)", INDEX, () -> x.isAtSea(0));
        Check.fails("1 refusalReason", ELEMENT, x::refusalReason);
        Check.fails("1 errorPosition", ELEMENT, x::errorPosition);
        Check.fails("1 failedCommand", ELEMENT, x::failedCommand);
        Check.fails("1 lineAt(0)", INDEX, () -> x.lineAt(0));
        Check.fails("1 undo", STATE, x::undo);
        Check.fails("1 restore", STATE, x::restore);
        Check.due("1 cheapestNet", x.cheapestNet(), 0);
        Check.due("1 append", x.append('a'), 1);
    }

    private static void addCrater() {
        MoonFerryOffice x = new MoonFerryOffice();
        Check.fails("2 depth -1", ARGUMENT, () -> x.addCrater(-1));
        Check.fails("2 depth 10", ARGUMENT, () -> x.addCrater(10));
        Check.fails("2 depth MIN", ARGUMENT, () -> x.addCrater(Integer.MIN_VALUE));
        for (int i = 0; i < 6; i++) {
            Check.due("2 addCrater " + i, x.addCrater(i == 5 ? 9 : i), i);
        }
        Check.fails("2 seventh", STATE, () -> x.addCrater(3));
        Check.fails("2 seventh, depth 10", ARGUMENT, () -> x.addCrater(10));
        Check.due("5 craterCount", x.craterCount(), 6);
        Check.due("7 depthOf(0)", x.depthOf(0), 0);
        Check.due("7 depthOf(5)", x.depthOf(5), 9);
    }

    private static void addChannel() {
        MoonFerryOffice x = withCraters(6);
        Check.fails("3 one -1", INDEX, () -> x.addChannel(-1, 0, 0, 0));
        Check.fails("3 other 6", INDEX, () -> x.addChannel(0, 6, 0, 0));
        Check.fails("3 one 6", INDEX, () -> x.addChannel(6, 0, 1, 0));
        Check.fails("3 other -1", INDEX, () -> x.addChannel(0, -1, 1, 0));
        Check.fails("3 same", ARGUMENT, () -> x.addChannel(2, 2, 1, 0));
        Check.fails("3 hours 0", ARGUMENT, () -> x.addChannel(0, 1, 0, 0));
        Check.fails("3 hours 10", ARGUMENT, () -> x.addChannel(0, 1, 10, 0));
        Check.fails("3 sill -1", ARGUMENT, () -> x.addChannel(0, 1, 1, -1));
        Check.fails("3 sill 10", ARGUMENT, () -> x.addChannel(0, 1, 1, 10));
        Check.due("3 first", x.addChannel(0, 1, 1, 0), 0);
        Check.due("3 second", x.addChannel(2, 0, 9, 9), 1);
        Check.fails("3 again", STATE, () -> x.addChannel(0, 1, 2, 2));
        Check.fails("3 again, turned", STATE, () -> x.addChannel(0, 2, 2, 2));
        Check.fails("3 again, hours 0", ARGUMENT, () -> x.addChannel(1, 0, 0, 2));
        int[] ones = {0, 0, 0, 1, 1, 1, 1, 2};
        int[] others = {3, 4, 5, 2, 3, 4, 5, 3};
        for (int i = 0; i < 8; i++) {
            Check.due("3 channel " + (i + 2), x.addChannel(ones[i], others[i], 3, 3), i + 2);
        }
        Check.fails("3 eleventh", STATE, () -> x.addChannel(4, 5, 1, 0));
        Check.fails("3 eleventh, same", ARGUMENT, () -> x.addChannel(4, 4, 1, 0));
        Check.due("6 channelCount", x.channelCount(), 10);
    }

    private static void removeChannel() {
        MoonFerryOffice x = withCraters(4);
        Check.fails("4 none", INDEX, () -> x.removeChannel(0));
        x.addChannel(0, 1, 1, 0);
        x.addChannel(1, 2, 2, 1);
        x.addChannel(2, 3, 3, 2);
        Check.fails("4 -1", INDEX, () -> x.removeChannel(-1));
        Check.fails("4 3", INDEX, () -> x.removeChannel(3));
        x.addFerry(3, 2, 10);
        Check.due("4 sail", x.sail(0, 2), 3);
        Check.fails("4 ferry in it", STATE, () -> x.removeChannel(2));
        Check.due("4 middle", x.removeChannel(1), 2);
        Check.due("4 later one moved", x.channelBetween(3, 2), 1);
        Check.due("4 first kept", x.channelBetween(0, 1), 0);
        Check.fails("4 gone", ELEMENT, () -> x.channelBetween(1, 2));
        Check.fails("4 ferry in it still", STATE, () -> x.removeChannel(1));
        Check.due("4 first", x.removeChannel(0), 1);
        Check.due("4 hours kept", x.wayHours(2, 3), 3);
        x.addFerry(2, 4, 10);
        Check.due("4 sill kept", x.earliestArrival(1, 3), 5);
        Check.fails("4 ferry in it now", STATE, () -> x.removeChannel(0));
        Check.due("4 pass", x.pass(3), 1);
        Check.due("4 ferry out", x.removeChannel(0), 0);
        Check.due("4 count", x.channelCount(), 0);
    }

    private static void readers() {
        MoonFerryOffice x = withCraters(3);
        Check.due("5 three", x.craterCount(), 3);
        Check.fails("7 -1", INDEX, () -> x.depthOf(-1));
        Check.fails("7 3", INDEX, () -> x.depthOf(3));
        x.addChannel(2, 1, 4, 4);
        Check.due("6 one", x.channelCount(), 1);
        Check.due("8 one way", x.channelBetween(2, 1), 0);
        Check.due("8 other way", x.channelBetween(1, 2), 0);
        Check.fails("8 none", ELEMENT, () -> x.channelBetween(0, 1));
        Check.fails("8 same", ELEMENT, () -> x.channelBetween(1, 1));
        Check.fails("8 one 3", INDEX, () -> x.channelBetween(3, 0));
        Check.fails("8 other -1", INDEX, () -> x.channelBetween(0, -1));
    }

    private static void tide() {
        MoonFerryOffice x = new MoonFerryOffice();
        int[] tides = {0, 1, 2, 3, 4, 5, 6, 5, 4, 3, 2, 1};
        for (int start = 0; start < 10000; start += 500) {
            MoonFerryOffice each = new MoonFerryOffice();
            for (int hour = start; hour < start + 500; hour++) {
                Check.due("9 tide(" + hour + ")", each.tide(hour), tides[hour % 12]);
            }
        }
        Check.fails("9 -1", ARGUMENT, () -> x.tide(-1));
        Check.fails("9 10000", ARGUMENT, () -> x.tide(10000));
        Check.fails("9 MAX", ARGUMENT, () -> x.tide(Integer.MAX_VALUE));
    }

    private static void ways() {
        MoonFerryOffice x = withCraters(5);
        x.addChannel(0, 1, 9, 9);
        x.addChannel(0, 2, 2, 9);
        x.addChannel(2, 3, 2, 9);
        x.addChannel(3, 1, 2, 9);
        int[] hours = {0, 6, 2, 4};
        for (int i = 0; i < 4; i++) {
            Check.due("10 to " + i, x.wayHours(0, i), hours[i]);
            Check.due("10 from " + i, x.wayHours(i, 0), hours[i]);
            Check.due("11 to " + i, x.wayHoursByTable(0, i), hours[i]);
            Check.due("11 from " + i, x.wayHoursByTable(i, 0), hours[i]);
        }
        Check.due("10 same", x.wayHours(4, 4), 0);
        Check.due("11 same", x.wayHoursByTable(4, 4), 0);
        Check.fails("10 no way", ELEMENT, () -> x.wayHours(0, 4));
        Check.fails("11 no way", ELEMENT, () -> x.wayHoursByTable(4, 0));
        Check.fails("10 one 5", INDEX, () -> x.wayHours(5, 0));
        Check.fails("10 other -1", INDEX, () -> x.wayHours(0, -1));
        Check.fails("11 one -1", INDEX, () -> x.wayHoursByTable(-1, 0));
        Check.fails("11 other 5", INDEX, () -> x.wayHoursByTable(0, 5));
    }

    private static void nets() {
        MoonFerryOffice x = withCraters(1);
        Check.due("12 one crater", x.cheapestNet(), 0);
        Check.due("13 one crater", x.cheapestNetByGrowing(), 0);
        x.addCrater(0);
        Check.fails("12 two apart", ELEMENT, x::cheapestNet);
        Check.fails("13 two apart", ELEMENT, x::cheapestNetByGrowing);
        x.addChannel(0, 1, 9, 0);
        Check.due("12 two", x.cheapestNet(), 9);
        Check.due("13 two", x.cheapestNetByGrowing(), 9);
        x.addCrater(0);
        x.addChannel(1, 2, 3, 0);
        x.addChannel(2, 0, 4, 0);
        Check.due("12 ring", x.cheapestNet(), 7);
        Check.due("13 ring", x.cheapestNetByGrowing(), 7);
        manyOrders();
    }

    // The short channels 0-1, 1-2 and 2-3 make the net, in whatever order the six are added.
    private static void manyOrders() {
        int[] ones = {0, 1, 2, 0, 0, 1};
        int[] others = {1, 2, 3, 2, 3, 3};
        int[] hours = {1, 2, 3, 5, 6, 7};
        for (int order = 0; order < 46656; order++) {
            MoonFerryOffice x = withCraters(4);
            int rest = order;
            for (int i = 0; i < 6; i++) {
                int channel = rest % 6;
                rest /= 6;
                addIfNew(x, ones[channel], others[channel], hours[channel]);
            }
            if (x.channelCount() == 6) {
                Check.due("12 order " + order, x.cheapestNet(), 6);
                Check.due("13 order " + order, x.cheapestNetByGrowing(), 6);
            }
        }
    }

    private static void addIfNew(MoonFerryOffice x, int one, int other, int hours) {
        try {
            x.channelBetween(one, other);
        } catch (NoSuchElementException e) {
            x.addChannel(one, other, hours, 0);
        }
    }
}
