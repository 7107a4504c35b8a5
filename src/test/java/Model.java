import java.util.ArrayDeque;
import java.util.ArrayList;
import java.util.Comparator;
import java.util.Deque;
import java.util.List;
import java.util.NoSuchElementException;
import java.util.TreeSet;
import java.util.regex.Matcher;
import java.util.regex.Pattern;

/** The document once more, as plainly as it goes: by trying everything, however slow that is. */
final class Model {
    private record Channel(int one, int other, int hours, int sill) {
        boolean joins(int a, int b) {
            return one == a && other == b || one == b && other == a;
        }
    }

    private record Ferry(int crater, Channel channel, int target, int arrival, int draught, int capacity) {
        boolean atSea() {
            return channel != null;
        }
    }

    private record Moon(int number, int origin, int destination, int weight, int phase, int ferry, int shore) {
        Moon aboard(int newFerry) {
            return new Moon(number, origin, destination, weight, phase, newFerry, -1);
        }

        Moon ashore(int newShore) {
            return new Moon(number, origin, destination, weight, phase, -1, newShore);
        }

        Moon older() {
            return new Moon(number, origin, destination, weight, phase == 7 ? 0 : phase + 1, ferry, shore);
        }
    }

    private record Passage(int ferry, int crater, int hour, boolean stranded) {
    }

    private static final class World {
        List<Integer> depths = new ArrayList<>();
        List<Channel> channels = new ArrayList<>();
        List<Ferry> ferries = new ArrayList<>();
        List<Moon> moons = new ArrayList<>();
        List<Passage> passages = new ArrayList<>();
        List<Integer> fares = new ArrayList<>();
        int rescued;
        int nextMoon;
        int hour;

        World copy() {
            World c = new World();
            c.depths.addAll(depths);
            c.channels.addAll(channels);
            c.ferries.addAll(ferries);
            c.moons.addAll(moons);
            c.passages.addAll(passages);
            c.fares.addAll(fares);
            c.rescued = rescued;
            c.nextMoon = nextMoon;
            c.hour = hour;
            return c;
        }
    }

    private static final int[] TIDES = {0, 1, 2, 3, 4, 5, 6, 5, 4, 3, 2, 1};
    private static final int[] LIGHTS = {0, 1, 2, 3, 4, 3, 2, 1};
    private static final String DIGIT = "([0-9])";
    private static final String NUMBER = "([0-9][0-9]?)";
    private static final String COMMAND = "(?:crater D|channel DD D D|ferry D N N|moon DD N D|sail D D"
            + "|board D N|land N|load D|rescue D|pass N)";
    private static final Pattern TEXT = Pattern.compile(
            (COMMAND + "(?:;" + COMMAND + ")*").replace("D", DIGIT).replace("N", NUMBER));

    private World world = new World();
    private final Deque<World> past = new ArrayDeque<>();
    private World saved;
    private int reason;
    private int error = -1;
    private int failed = -1;
    private String text = "";
    private String line = "";
    private boolean running;

    private void change() {
        if (!running) {
            keep(world.copy());
        }
    }

    private void keep(World earlier) {
        past.push(earlier);
        if (past.size() > 8) {
            past.removeLast();
        }
    }

    private static void index(boolean good) {
        if (!good) {
            throw new IndexOutOfBoundsException();
        }
    }

    private static void argument(boolean good) {
        if (!good) {
            throw new IllegalArgumentException();
        }
    }

    private static void state(boolean good) {
        if (!good) {
            throw new IllegalStateException();
        }
    }

    private static void element(boolean good) {
        if (!good) {
            throw new NoSuchElementException();
        }
    }

    private void refuse(boolean refused, int why) {
        if (refused) {
            reason = why;
            throw new UnsupportedOperationException();
        }
    }

    private boolean crater(int crater) {
        return crater >= 0 && crater < world.depths.size();
    }

    private Ferry ferry(int ferry) {
        index(ferry >= 0 && ferry < world.ferries.size());
        return world.ferries.get(ferry);
    }

    private Moon moon(int number) {
        return world.moons.stream().filter(m -> m.number == number).findAny().orElseThrow();
    }

    private void replace(Moon moon) {
        world.moons.replaceAll(m -> m.number == moon.number ? moon : m);
    }

    private int tideNow() {
        return TIDES[world.hour % 12];
    }

    private boolean stranded(Ferry f) {
        return !f.atSea() && world.depths.get(f.crater) + tideNow() < f.draught;
    }

    public int addCrater(int depth) {
        argument(depth >= 0 && depth <= 9);
        state(world.depths.size() < 6);
        change();
        world.depths.add(depth);
        return world.depths.size() - 1;
    }

    private Channel between(int one, int other) {
        return world.channels.stream().filter(c -> c.joins(one, other)).findAny().orElse(null);
    }

    public int addChannel(int one, int other, int hours, int sill) {
        index(crater(one) && crater(other));
        argument(one != other && hours >= 1 && hours <= 9 && sill >= 0 && sill <= 9);
        state(world.channels.size() < 10 && between(one, other) == null);
        change();
        world.channels.add(new Channel(one, other, hours, sill));
        return world.channels.size() - 1;
    }

    public int removeChannel(int channel) {
        index(channel >= 0 && channel < world.channels.size());
        Channel gone = world.channels.get(channel);
        state(world.ferries.stream().noneMatch(f -> f.channel == gone));
        change();
        world.channels.remove(channel);
        return world.channels.size();
    }

    public int craterCount() {
        return world.depths.size();
    }

    public int channelCount() {
        return world.channels.size();
    }

    public int depthOf(int crater) {
        index(crater(crater));
        return world.depths.get(crater);
    }

    public int channelBetween(int one, int other) {
        index(crater(one) && crater(other));
        element(between(one, other) != null);
        return world.channels.indexOf(between(one, other));
    }

    public int tide(int hour) {
        argument(hour >= 0 && hour <= 9999);
        return TIDES[hour % 12];
    }

    /** Tries each way that meets no crater twice; 999 if there is none. */
    private int leastHours(int from, int to, int seen) {
        if (from == to) {
            return 0;
        }
        int least = 999;
        for (int next = 0; next < world.depths.size(); next++) {
            Channel c = between(from, next);
            if (c != null && (seen >> next & 1) == 0) {
                least = Math.min(least, c.hours + leastHours(next, to, seen | 1 << next));
            }
        }
        return least;
    }

    public int wayHours(int one, int other) {
        index(crater(one) && crater(other));
        int hours = leastHours(one, other, 1 << one);
        element(hours < 999);
        return hours;
    }

    public int wayHoursByTable(int one, int other) {
        return wayHours(one, other);
    }

    private boolean connected(int set) {
        int reached = 1;
        for (int round = 0; round < 6; round++) {
            for (int c = 0; c < world.channels.size(); c++) {
                Channel channel = world.channels.get(c);
                int ends = 1 << channel.one | 1 << channel.other;
                if ((set >> c & 1) == 1 && (reached & ends) != 0) {
                    reached |= ends;
                }
            }
        }
        return Integer.bitCount(reached) >= world.depths.size();
    }

    public int cheapestNet() {
        int least = 999;
        for (int set = 0; set < 1 << world.channels.size(); set++) {
            int sum = 0;
            for (int c = 0; c < world.channels.size(); c++) {
                sum += (set >> c & 1) * world.channels.get(c).hours;
            }
            if (sum < least && connected(set)) {
                least = sum;
            }
        }
        element(least < 999);
        return least;
    }

    public int cheapestNetByGrowing() {
        return cheapestNet();
    }

    public int addFerry(int crater, int draught, int capacity) {
        index(crater(crater));
        argument(draught >= 1 && draught <= 12 && capacity >= 1 && capacity <= 99);
        state(world.ferries.size() < 3);
        change();
        world.ferries.add(new Ferry(crater, null, -1, -1, draught, capacity));
        return world.ferries.size() - 1;
    }

    public int sail(int ferry, int crater) {
        Ferry f = ferry(ferry);
        index(crater(crater));
        state(!f.atSea());
        Channel c = between(f.crater, crater);
        refuse(c == null, 1);
        refuse(stranded(f), 2);
        refuse(c.sill + tideNow() < f.draught, 3);
        change();
        int arrival = world.hour + c.hours;
        world.ferries.set(ferry, new Ferry(-1, c, crater, arrival, f.draught, f.capacity));
        return arrival;
    }

    public boolean isAtSea(int ferry) {
        return ferry(ferry).atSea();
    }

    public int craterOf(int ferry) {
        state(!ferry(ferry).atSea());
        return ferry(ferry).crater;
    }

    public int targetOf(int ferry) {
        state(ferry(ferry).atSea());
        return ferry(ferry).target;
    }

    public int hoursLeft(int ferry) {
        return ferry(ferry).atSea() ? ferry(ferry).arrival - world.hour : 0;
    }

    public boolean isStranded(int ferry) {
        return stranded(ferry(ferry));
    }

    public int loadOf(int ferry) {
        ferry(ferry);
        return world.moons.stream().filter(m -> m.ferry == ferry).mapToInt(m -> m.weight).sum();
    }

    /** Marks each crater in each hour in which the ferry could be there. */
    public int earliestArrival(int ferry, int crater) {
        Ferry f = ferry(ferry);
        index(crater(crater));
        boolean[][] there = new boolean[200][6];
        there[hoursLeft(ferry)][f.atSea() ? f.target : f.crater] = true;
        for (int later = 0; later <= 99; later++) {
            for (int at = 0; at < world.depths.size(); at++) {
                if (!there[later][at]) {
                    continue;
                }
                if (at == crater) {
                    return world.hour + later;
                }
                there[later + 1][at] = true;
                int tide = TIDES[(world.hour + later) % 12];
                for (Channel c : world.channels) {
                    boolean open = c.sill + tide >= f.draught && world.depths.get(at) + tide >= f.draught;
                    if (open && (c.one == at || c.other == at)) {
                        there[later + c.hours][c.one + c.other - at] = true;
                    }
                }
            }
        }
        throw new NoSuchElementException();
    }

    public int earliestArrivalByHours(int ferry, int crater) {
        return earliestArrival(ferry, crater);
    }

    public int addMoon(int crater, int destination, int weight, int phase) {
        index(crater(crater) && crater(destination));
        argument(crater != destination && weight >= 1 && weight <= 40 && phase >= 0 && phase <= 7);
        state(world.moons.size() < 10);
        change();
        world.moons.add(new Moon(world.nextMoon, crater, destination, weight, phase, -1, crater));
        return world.nextMoon++;
    }

    public int board(int ferry, int moon) {
        Ferry f = ferry(ferry);
        Moon m = moon(moon);
        state(m.ferry < 0);
        refuse(f.atSea() || m.shore != f.crater, 4);
        refuse(stranded(f), 5);
        refuse(loadOf(ferry) + m.weight > f.capacity, 6);
        refuse(m.phase == 0, 7);
        change();
        replace(m.aboard(ferry));
        return loadOf(ferry);
    }

    public int land(int moon) {
        Moon m = moon(moon);
        state(m.ferry >= 0);
        Ferry f = ferry(m.ferry);
        refuse(f.atSea() || stranded(f), reason);
        change();
        if (m.destination != f.crater) {
            replace(m.ashore(f.crater));
            return 0;
        }
        int fare = fareOf(moon);
        world.moons.remove(m);
        world.fares.add(fare);
        return fare;
    }

    /** Tries each set of moons, and compares the best ones by the words of the document. */
    private List<Moon> best(int ferry) {
        Ferry f = ferry(ferry);
        List<Moon> best = new ArrayList<>();
        for (int set = 1; set < 1 << world.moons.size(); set++) {
            List<Moon> load = new ArrayList<>();
            for (int place = 0; place < world.moons.size(); place++) {
                if ((set >> place & 1) == 1) {
                    load.add(world.moons.get(place));
                }
            }
            boolean fits = load.stream().mapToInt(m -> m.weight).sum() <= f.capacity - loadOf(ferry);
            if (fits && load.stream().allMatch(m -> m.shore == f.crater && m.phase != 0) && better(load, best)) {
                best = load;
            }
        }
        return best;
    }

    private int sum(List<Moon> load) {
        return load.stream().mapToInt(m -> fareOf(m.number)).sum();
    }

    private boolean better(List<Moon> load, List<Moon> other) {
        if (sum(load) != sum(other)) {
            return sum(load) > sum(other);
        }
        TreeSet<Integer> inOne = new TreeSet<>();
        load.stream().filter(m -> !other.contains(m)).forEach(m -> inOne.add(m.number));
        other.stream().filter(m -> !load.contains(m)).forEach(m -> inOne.add(m.number));
        return load.stream().anyMatch(m -> m.number == inOne.first());
    }

    public int loadBest(int ferry) {
        Ferry f = ferry(ferry);
        refuse(f.atSea() || stranded(f), reason);
        List<Moon> best = best(ferry);
        change();
        best.forEach(m -> replace(m.aboard(ferry)));
        return best.size();
    }

    public int bestLoad(int ferry) {
        state(!ferry(ferry).atSea());
        return sum(best(ferry));
    }

    public int bestLoadByTable(int ferry) {
        return bestLoad(ferry);
    }

    public int rescue(int ferry) {
        Ferry f = ferry(ferry);
        state(stranded(f));
        change();
        int before = world.rescued;
        for (Moon m : List.copyOf(world.moons)) {
            if (m.ferry == ferry) {
                replace(m.ashore(f.crater));
                world.rescued++;
            }
        }
        return world.rescued - before;
    }

    public int moonCount() {
        return world.moons.size();
    }

    public int moonAt(int place) {
        index(place >= 0 && place < world.moons.size());
        return world.moons.get(place).number;
    }

    public int ferryOf(int moon) {
        state(moon(moon).ferry >= 0);
        return moon(moon).ferry;
    }

    public int shoreOf(int moon) {
        state(moon(moon).ferry < 0);
        return moon(moon).shore;
    }

    public int phaseOf(int moon) {
        return moon(moon).phase;
    }

    public int fareOf(int moon) {
        Moon m = moon(moon);
        int hours = leastHours(m.origin, m.destination, 1 << m.origin);
        return hours == 999 ? 0 : hours * (LIGHTS[m.phase] + 1);
    }

    public int moonAtRank(int rank) {
        element(rank >= 0 && rank < world.moons.size());
        List<Moon> ranked = new ArrayList<>(world.moons);
        ranked.sort(Comparator.comparingInt((Moon m) -> -fareOf(m.number)).thenComparingInt(m -> m.number));
        return ranked.get(rank).number;
    }

    public int countBelow(int fare) {
        return (int) world.moons.stream().filter(m -> fareOf(m.number) < fare).count();
    }

    public int countBelowByAsking(int fare) {
        return countBelow(fare);
    }

    public int pass(int hours) {
        argument(hours >= 1 && hours <= 48);
        change();
        int before = world.passages.size();
        for (int i = 0; i < hours; i++) {
            world.hour++;
            if (world.hour % 24 == 0) {
                world.moons.replaceAll(Moon::older);
            }
            for (int number = 0; number < world.ferries.size(); number++) {
                Ferry f = world.ferries.get(number);
                if (f.atSea() && f.arrival == world.hour) {
                    Ferry in = new Ferry(f.target, null, -1, -1, f.draught, f.capacity);
                    world.ferries.set(number, in);
                    world.passages.add(new Passage(number, f.target, world.hour, stranded(in)));
                }
            }
        }
        return world.passages.size() - before;
    }

    public int hour() {
        return world.hour;
    }

    public int refusalReason() {
        element(reason > 0);
        return reason;
    }

    public int passageCount() {
        return world.passages.size();
    }

    private Passage passage(int recency) {
        element(recency >= 0 && recency < 10 && recency < world.passages.size());
        return world.passages.get(world.passages.size() - 1 - recency);
    }

    public int passageFerry(int recency) {
        return passage(recency).ferry;
    }

    public int passageCrater(int recency) {
        return passage(recency).crater;
    }

    public int passageHour(int recency) {
        return passage(recency).hour;
    }

    public int strandingCount() {
        return (int) world.passages.stream().filter(Passage::stranded).count();
    }

    public long coins() {
        return fareTotal() - 5L * world.rescued;
    }

    public int fareTotal() {
        return world.fares.stream().mapToInt(f -> f).sum();
    }

    public int append(char character) {
        argument(character >= ' ' && character <= '~');
        state(text.length() < 60);
        text += character;
        return text.length();
    }

    private static boolean couldGoOn(String start) {
        Matcher matcher = TEXT.matcher(start);
        return matcher.matches() || matcher.hitEnd();
    }

    private void command(String command) {
        List<Integer> n = new ArrayList<>();
        String word = command.substring(0, command.indexOf(' '));
        Matcher digits = Pattern.compile("[0-9]+").matcher(command);
        while (digits.find()) {
            String found = digits.group();
            if ((word.equals("channel") || word.equals("moon")) && n.isEmpty()) {
                n.add(found.charAt(0) - '0');
                found = found.substring(1);
            }
            n.add(Integer.parseInt(found));
        }
        switch (word) {
            case "crater" -> addCrater(n.get(0));
            case "channel" -> addChannel(n.get(0), n.get(1), n.get(2), n.get(3));
            case "ferry" -> addFerry(n.get(0), n.get(1), n.get(2));
            case "moon" -> addMoon(n.get(0), n.get(1), n.get(2), n.get(3));
            case "sail" -> sail(n.get(0), n.get(1));
            case "board" -> board(n.get(0), n.get(1));
            case "land" -> land(n.get(0));
            case "load" -> loadBest(n.get(0));
            case "rescue" -> rescue(n.get(0));
            case "pass" -> pass(n.get(0));
            default -> throw new AssertionError(word);
        }
    }

    public int run() {
        String whole = text;
        text = "";
        if (!TEXT.matcher(whole).matches()) {
            error = 0;
            while (error < whole.length() && couldGoOn(whole.substring(0, error + 1))) {
                error++;
            }
            throw new IllegalArgumentException();
        }
        World before = world.copy();
        String[] commands = whole.split(";");
        running = true;
        for (int i = 0; i < commands.length; i++) {
            try {
                command(commands[i]);
            } catch (RuntimeException e) {
                running = false;
                failed = i;
                world = before;
                throw new IllegalStateException();
            }
        }
        running = false;
        keep(before);
        return commands.length;
    }

    public int errorPosition() {
        element(error >= 0);
        return error;
    }

    public int failedCommand() {
        element(failed >= 0);
        return failed;
    }

    public int describeFerry(int ferry) {
        Ferry f = ferry(ferry);
        String place = f.atSea() ? ">" + f.target + "x" + hoursLeft(ferry) : "@" + f.crater;
        line = ferry + place + (stranded(f) ? "!" : "");
        world.moons.stream().filter(m -> m.ferry == ferry).forEach(m -> line += " " + m.number);
        return line.length();
    }

    public char lineAt(int index) {
        index(index >= 0 && index < line.length());
        return line.charAt(index);
    }

    public double meanPhase() {
        if (world.moons.isEmpty()) {
            throw new ArithmeticException();
        }
        return (double) world.moons.stream().mapToInt(m -> m.phase).sum() / world.moons.size();
    }

    public float loadShare(int ferry) {
        return (float) loadOf(ferry) / ferry(ferry).capacity;
    }

    public boolean isConsistent() {
        return true;
    }

    public int undo() {
        state(!past.isEmpty());
        world = past.pop();
        return past.size();
    }

    public int save() {
        saved = world.copy();
        return world.moons.size();
    }

    public int restore() {
        state(saved != null);
        world = saved.copy();
        past.clear();
        return world.moons.size();
    }
}
