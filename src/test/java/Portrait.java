import java.util.ArrayList;
import java.util.List;

/** What an office answers to the questions about all that changes can change, in some 250 calls. */
final class Portrait {
    private static final String[] PLAIN = {"craterCount", "channelCount", "cheapestNet", "cheapestNetByGrowing",
        "moonCount", "hour", "passageCount", "strandingCount", "coins", "fareTotal", "meanPhase", "isConsistent"};
    private static final String[] OF_FERRIES = {"isAtSea", "craterOf", "targetOf", "hoursLeft", "isStranded",
        "loadOf", "bestLoad", "bestLoadByTable", "loadShare"};
    private static final String[] OF_FERRIES_AND_CRATERS = {"earliestArrival", "earliestArrivalByHours"};
    private static final String[] OF_PAIRS = {"channelBetween", "wayHours", "wayHoursByTable"};
    private static final String[] OF_MOONS = {"ferryOf", "shoreOf", "phaseOf", "fareOf", "countBelow",
        "countBelowByAsking"};
    private static final String[] OF_PASSAGES = {"passageFerry", "passageCrater", "passageHour"};

    private final MoonFerryOffice office;
    private final List<String> answers = new ArrayList<>();

    private Portrait(MoonFerryOffice office) {
        this.office = office;
    }

    static List<String> of(MoonFerryOffice x) {
        Portrait portrait = new Portrait(x);
        portrait.askAll(PLAIN, "");
        portrait.askWaters(x.craterCount());
        portrait.askFerries(x.craterCount());
        portrait.askMoons(x.moonCount());
        for (int recency = 0; recency < Math.min(10, x.passageCount()); recency++) {
            portrait.askAll(OF_PASSAGES, " " + recency);
        }
        return portrait.answers;
    }

    private void askAll(String[] methods, String arguments) {
        for (String method : methods) {
            answers.add(method + arguments + ": " + Calls.answer(office, method + arguments));
        }
    }

    private void askWaters(int craters) {
        for (int one = 0; one < craters; one++) {
            answers.add("depth of " + one + ": " + office.depthOf(one));
            for (int other = 0; other < one; other++) {
                askAll(OF_PAIRS, " " + one + " " + other);
            }
        }
    }

    private void askFerries(int craters) {
        for (int ferry = 0; ferry < 3; ferry++) {
            askAll(OF_FERRIES, " " + ferry);
            for (int crater = 0; crater < craters; crater++) {
                askAll(OF_FERRIES_AND_CRATERS, " " + ferry + " " + crater);
            }
        }
    }

    private void askMoons(int moons) {
        for (int place = 0; place < moons; place++) {
            int moon = office.moonAt(place);
            answers.add("place " + place + ": " + moon + ", rank " + place + ": " + office.moonAtRank(place));
            askAll(OF_MOONS, " " + moon);
        }
    }
}
