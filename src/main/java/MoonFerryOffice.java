import java.util.Arrays;
import java.util.NoSuchElementException;

/** An office that ferries moons between craters; README.md tells how it is used. */
public final class MoonFerryOffice {
    private static final int MAX_CRATERS = 6;
    private static final int MAX_CHANNELS = 10;
    private static final int MAX_FERRIES = 3;
    private static final int MAX_MOONS = 10;
    private static final int MAX_DEPTH = 9;
    private static final int MAX_CHANNEL_HOURS = 9;
    private static final int MAX_SILL = 9;
    private static final int MAX_DRAUGHT = 12;
    private static final int MAX_CAPACITY = 99;
    private static final int MAX_WEIGHT = 40;
    private static final int MAX_TIDE_HOUR = 9999;
    private static final int MAX_PASS = 48;
    private static final int MAX_TEXT = 60;
    private static final int MAX_UNDO = 8;
    private static final int KEPT_PASSAGES = 10;
    private static final int HORIZON = 99;
    private static final int PHASES = 8;
    private static final int FULL_PHASE = 4;
    private static final int TIDE_HOURS = 12;
    private static final int HIGHEST_TIDE = 6;
    private static final int PHASE_HOURS = 24;
    private static final int RESCUE_COINS = 5;
    private static final int FIRST_SIGN = 32;
    private static final int LAST_SIGN = 126;

    // The start and both directions of each channel: no crater is queued more often.
    private static final int MAX_QUEUE = 1 + 2 * MAX_CHANNELS;

    private static final int NONE = -1;

    // What a change answers instead of a number when it is not carried out.
    private static final int NO_INDEX = -1;
    private static final int BAD_ARGUMENT = -2;
    private static final int BAD_STATE = -3;
    private static final int REFUSED = -4;
    private static final int NO_ELEMENT = -5;

    private static final int NO_CHANNEL = 1;
    private static final int SAILING_STRANDED = 2;
    private static final int CHANNEL_SHUT = 3;
    private static final int NOT_TOGETHER = 4;
    private static final int BOARDING_STRANDED = 5;
    private static final int TOO_HEAVY = 6;
    private static final int NEW_MOON = 7;

    private static final int CRATER = 0;
    private static final int CHANNEL = 1;
    private static final int FERRY = 2;
    private static final int MOON = 3;
    private static final int SAIL = 4;
    private static final int BOARD = 5;
    private static final int LAND = 6;
    private static final int LOAD = 7;
    private static final int RESCUE = 8;
    private static final int PASS = 9;
    private static final int COMMAND_KINDS = 10;
    private static final int COMMAND_NUMBERS = 4;

    // The shortest command, "land 0", has six characters.
    private static final int MAX_COMMANDS = MAX_TEXT / 6;

    private final Clerk clerk = new Clerk();
    private final State state = clerk.state;
    private final Loads loads = clerk.loads;
    private final Fares fares = loads.fares;
    private final Ways ways = fares.ways;
    private final State before = new State();
    private final State snapshot = new State();
    private final History history = new History();
    private final CommandText text = new CommandText();
    private final StringBuilder line = new StringBuilder();
    private boolean hasSnapshot;
    private int errorAt = NONE;
    private int failedAt = NONE;

    public MoonFerryOffice() {
    }

    // ---- craters and channels

    public int addCrater(int depth) throws IllegalArgumentException, IllegalStateException {
        before.copyFrom(state);
        return settle(clerk.openCrater(depth));
    }

    public int addChannel(int one, int other, int hours, int sill)
            throws IndexOutOfBoundsException, IllegalArgumentException, IllegalStateException {
        before.copyFrom(state);
        return settle(clerk.openChannel(one, other, hours, sill));
    }

    public int removeChannel(int channel) throws IndexOutOfBoundsException, IllegalStateException {
        before.copyFrom(state);
        return settle(clerk.closeChannel(channel));
    }

    public int craterCount() {
        return state.waters.craterTotal;
    }

    public int channelCount() {
        return state.waters.channelTotal;
    }

    public int depthOf(int crater) throws IndexOutOfBoundsException {
        needCrater(crater);
        return state.waters.depths[crater];
    }

    public int channelBetween(int one, int other)
            throws IndexOutOfBoundsException, NoSuchElementException {
        needCrater(one);
        needCrater(other);
        return present(state.waters.findChannel(one, other));
    }

    public int tide(int hour) throws IllegalArgumentException {
        if (hour < 0 || hour > MAX_TIDE_HOUR) {
            throw new IllegalArgumentException();
        }
        return tideIn(hour);
    }

    public int wayHours(int one, int other)
            throws IndexOutOfBoundsException, NoSuchElementException {
        needCrater(one);
        needCrater(other);
        ways.spreadFrom(state.waters, one);
        return present(ways.hoursTo[other]);
    }

    public int wayHoursByTable(int one, int other)
            throws IndexOutOfBoundsException, NoSuchElementException {
        needCrater(one);
        needCrater(other);
        ways.fillTable(state.waters);
        return present(ways.table[one][other]);
    }

    public int cheapestNet() throws NoSuchElementException {
        return present(ways.netByOrder(state.waters));
    }

    public int cheapestNetByGrowing() throws NoSuchElementException {
        return present(ways.netByGrowing(state.waters));
    }

    // ---- ferries

    public int addFerry(int crater, int draught, int capacity)
            throws IndexOutOfBoundsException, IllegalArgumentException, IllegalStateException {
        before.copyFrom(state);
        return settle(clerk.enlistFerry(crater, draught, capacity));
    }

    public int sail(int ferry, int crater)
            throws IndexOutOfBoundsException, IllegalStateException, UnsupportedOperationException {
        before.copyFrom(state);
        return settle(clerk.beginPassage(ferry, crater));
    }

    public boolean isAtSea(int ferry) throws IndexOutOfBoundsException {
        needFerry(ferry);
        return state.fleet.underWay(ferry);
    }

    public int craterOf(int ferry) throws IndexOutOfBoundsException, IllegalStateException {
        needFerry(ferry);
        needAshore(ferry);
        return state.fleet.craters[ferry];
    }

    public int targetOf(int ferry) throws IndexOutOfBoundsException, IllegalStateException {
        needFerry(ferry);
        if (!state.fleet.underWay(ferry)) {
            throw new IllegalStateException();
        }
        return state.fleet.targets[ferry];
    }

    public int hoursLeft(int ferry) throws IndexOutOfBoundsException {
        needFerry(ferry);
        return state.hoursUntilAshore(ferry);
    }

    public boolean isStranded(int ferry) throws IndexOutOfBoundsException {
        needFerry(ferry);
        return state.aground(ferry);
    }

    public int loadOf(int ferry) throws IndexOutOfBoundsException {
        needFerry(ferry);
        return state.moons.weightAboard(ferry);
    }

    public int earliestArrival(int ferry, int crater)
            throws IndexOutOfBoundsException, NoSuchElementException {
        needFerry(ferry);
        needCrater(crater);
        ways.arriveByQueue(state, ferry);
        return present(ways.byQueue[crater]);
    }

    public int earliestArrivalByHours(int ferry, int crater)
            throws IndexOutOfBoundsException, NoSuchElementException {
        needFerry(ferry);
        needCrater(crater);
        ways.arriveByHours(state, ferry);
        return present(ways.byHours[crater]);
    }

    // ---- moons

    public int addMoon(int crater, int destination, int weight, int phase)
            throws IndexOutOfBoundsException, IllegalArgumentException, IllegalStateException {
        before.copyFrom(state);
        return settle(clerk.enlistMoon(crater, destination, weight, phase));
    }

    public int board(int ferry, int moon)
            throws IndexOutOfBoundsException, NoSuchElementException, IllegalStateException,
            UnsupportedOperationException {
        before.copyFrom(state);
        return settle(clerk.takeAboard(ferry, moon));
    }

    public int land(int moon)
            throws NoSuchElementException, IllegalStateException, UnsupportedOperationException {
        before.copyFrom(state);
        return settle(clerk.putAshore(moon));
    }

    public int loadBest(int ferry)
            throws IndexOutOfBoundsException, UnsupportedOperationException {
        before.copyFrom(state);
        return settle(clerk.takeBestLoad(ferry));
    }

    public int bestLoad(int ferry) throws IndexOutOfBoundsException, IllegalStateException {
        needFerry(ferry);
        needAshore(ferry);
        loads.gather(state, ferry);
        return loads.sumByDeciding();
    }

    public int bestLoadByTable(int ferry) throws IndexOutOfBoundsException, IllegalStateException {
        needFerry(ferry);
        needAshore(ferry);
        loads.gather(state, ferry);
        return loads.sumByTable();
    }

    public int rescue(int ferry) throws IndexOutOfBoundsException, IllegalStateException {
        before.copyFrom(state);
        return settle(clerk.pullFree(ferry));
    }

    public int moonCount() {
        return state.moons.total;
    }

    public int moonAt(int place) throws IndexOutOfBoundsException {
        if (place < 0 || place >= state.moons.total) {
            throw new IndexOutOfBoundsException();
        }
        return state.moons.numbers[place];
    }

    public int ferryOf(int moon) throws NoSuchElementException, IllegalStateException {
        int ferry = state.moons.ferries[placeOfMoon(moon)];
        if (ferry == NONE) {
            throw new IllegalStateException();
        }
        return ferry;
    }

    public int shoreOf(int moon) throws NoSuchElementException, IllegalStateException {
        int shore = state.moons.shores[placeOfMoon(moon)];
        if (shore == NONE) {
            throw new IllegalStateException();
        }
        return shore;
    }

    public int phaseOf(int moon) throws NoSuchElementException {
        return state.moons.phases[placeOfMoon(moon)];
    }

    public int fareOf(int moon) throws NoSuchElementException {
        return fares.fareAt(state, placeOfMoon(moon));
    }

    public int moonAtRank(int rank) throws NoSuchElementException {
        if (rank < 0 || rank >= state.moons.total) {
            throw new NoSuchElementException();
        }
        fares.askAll(state);
        return state.moons.numbers[fares.placeAtRank(rank)];
    }

    public int countBelow(int fare) {
        fares.askAll(state);
        fares.growTree();
        return fares.lessInTree(fare);
    }

    public int countBelowByAsking(int fare) {
        fares.askAll(state);
        return fares.lessByAsking(fare);
    }

    // ---- time, passages, coins

    public int pass(int hours) throws IllegalArgumentException {
        before.copyFrom(state);
        return settle(clerk.letPass(hours));
    }

    public int hour() {
        return state.presentHour;
    }

    public int refusalReason() throws NoSuchElementException {
        return present(clerk.reason);
    }

    public int passageCount() {
        return state.fleet.passageTotal;
    }

    public int passageFerry(int recency) throws NoSuchElementException {
        needPassage(recency);
        return state.fleet.passageFerries[state.fleet.slotOf(recency)];
    }

    public int passageCrater(int recency) throws NoSuchElementException {
        needPassage(recency);
        return state.fleet.passageCraters[state.fleet.slotOf(recency)];
    }

    public int passageHour(int recency) throws NoSuchElementException {
        needPassage(recency);
        return state.fleet.passageHours[state.fleet.slotOf(recency)];
    }

    public int strandingCount() {
        return state.fleet.strandingTotal;
    }

    public long coins() {
        return state.purse;
    }

    public int fareTotal() {
        return state.paidFares;
    }

    // ---- commands

    public int append(char character) throws IllegalArgumentException, IllegalStateException {
        if (character < FIRST_SIGN || character > LAST_SIGN) {
            throw new IllegalArgumentException();
        }
        if (text.length >= MAX_TEXT) {
            throw new IllegalStateException();
        }
        text.addSign(character);
        return text.length;
    }

    public int run() throws IllegalArgumentException, IllegalStateException {
        int error = text.parse();
        text.length = 0;
        if (error != NONE) {
            errorAt = error;
            throw new IllegalArgumentException();
        }
        before.copyFrom(state);
        for (int command = 0; command < text.commandTotal; command++) {
            if (carryOut(command) < 0) {
                state.copyFrom(before);
                failedAt = command;
                throw new IllegalStateException();
            }
        }
        history.remember(before);
        return text.commandTotal;
    }

    public int errorPosition() throws NoSuchElementException {
        return present(errorAt);
    }

    public int failedCommand() throws NoSuchElementException {
        return present(failedAt);
    }

    // ---- line, statistics, undo, snapshot

    public int describeFerry(int ferry) throws IndexOutOfBoundsException {
        needFerry(ferry);
        line.setLength(0);
        line.append(ferry);
        writePosition(ferry);
        writeMoonsAboard(ferry);
        return line.length();
    }

    public char lineAt(int index) throws IndexOutOfBoundsException {
        if (index < 0 || index >= line.length()) {
            throw new IndexOutOfBoundsException();
        }
        return line.charAt(index);
    }

    public double meanPhase() throws ArithmeticException {
        if (state.moons.total == 0) {
            throw new ArithmeticException();
        }
        return (double) state.moons.sumOfPhases() / (double) state.moons.total;
    }

    public float loadShare(int ferry) throws IndexOutOfBoundsException {
        needFerry(ferry);
        return (float) state.moons.weightAboard(ferry) / (float) state.fleet.capacities[ferry];
    }

    public boolean isConsistent() {
        return waysAgree() && netsAgree() && arrivalsAgree() && loadsAgree() && countsAgree();
    }

    public int undo() throws IllegalStateException {
        if (history.total == 0) {
            throw new IllegalStateException();
        }
        history.takeBack(state);
        return history.total;
    }

    public int save() {
        snapshot.copyFrom(state);
        hasSnapshot = true;
        return state.moons.total;
    }

    public int restore() throws IllegalStateException {
        if (!hasSnapshot) {
            throw new IllegalStateException();
        }
        state.copyFrom(snapshot);
        history.total = 0;
        return state.moons.total;
    }

    private static int tideIn(int anyHour) {
        int sinceLow = Math.floorMod(anyHour, TIDE_HOURS);
        return sinceLow <= HIGHEST_TIDE ? sinceLow : TIDE_HOURS - sinceLow;
    }

    private static int present(int answer) {
        if (answer == NONE) {
            throw new NoSuchElementException();
        }
        return answer;
    }

    private int settle(int answer) {
        switch (answer) {
            case NO_INDEX:
                throw new IndexOutOfBoundsException();
            case BAD_ARGUMENT:
                throw new IllegalArgumentException();
            case BAD_STATE:
                throw new IllegalStateException();
            case REFUSED:
                throw new UnsupportedOperationException();
            case NO_ELEMENT:
                throw new NoSuchElementException();
            default:
                history.remember(before);
                return answer;
        }
    }

    private void needCrater(int crater) {
        if (!state.waters.hasCrater(crater)) {
            throw new IndexOutOfBoundsException();
        }
    }

    private void needFerry(int ferry) {
        if (!state.fleet.hasFerry(ferry)) {
            throw new IndexOutOfBoundsException();
        }
    }

    private void needAshore(int ferry) {
        if (state.fleet.underWay(ferry)) {
            throw new IllegalStateException();
        }
    }

    private void needPassage(int recency) {
        if (!state.fleet.keepsPassage(recency)) {
            throw new NoSuchElementException();
        }
    }

    private int placeOfMoon(int moon) {
        return present(state.moons.placeOf(moon));
    }

    private int carryOut(int command) {
        int first = text.numberOf(command, 0);
        int second = text.numberOf(command, 1);
        int third = text.numberOf(command, 2);
        int fourth = text.numberOf(command, 3);
        switch (text.kinds[command]) {
            case CRATER:
                return clerk.openCrater(first);
            case CHANNEL:
                return clerk.openChannel(first, second, third, fourth);
            case FERRY:
                return clerk.enlistFerry(first, second, third);
            case MOON:
                return clerk.enlistMoon(first, second, third, fourth);
            case SAIL:
                return clerk.beginPassage(first, second);
            case BOARD:
                return clerk.takeAboard(first, second);
            case LAND:
                return clerk.putAshore(first);
            case LOAD:
                return clerk.takeBestLoad(first);
            case RESCUE:
                return clerk.pullFree(first);
            default:
                return clerk.letPass(first);
        }
    }

    private void writePosition(int ferry) {
        if (state.fleet.underWay(ferry)) {
            line.append('>').append(state.fleet.targets[ferry]);
            line.append('x').append(state.hoursUntilAshore(ferry));
            return;
        }
        line.append('@').append(state.fleet.craters[ferry]);
        if (state.aground(ferry)) {
            line.append('!');
        }
    }

    private void writeMoonsAboard(int ferry) {
        Moons moons = state.moons;
        for (int place = 0; place < moons.total; place++) {
            if (moons.ferries[place] == ferry) {
                line.append(' ').append(moons.numbers[place]);
            }
        }
    }

    private boolean waysAgree() {
        int craters = state.waters.craterTotal;
        ways.fillTable(state.waters);
        for (int one = 0; one < craters; one++) {
            ways.spreadFrom(state.waters, one);
            for (int other = 0; other < craters; other++) {
                if (ways.hoursTo[other] != ways.table[one][other]) {
                    return false;
                }
            }
        }
        return true;
    }

    private boolean netsAgree() {
        return ways.netByOrder(state.waters) == ways.netByGrowing(state.waters);
    }

    private boolean arrivalsAgree() {
        for (int ferry = 0; ferry < state.fleet.total; ferry++) {
            ways.arriveByQueue(state, ferry);
            ways.arriveByHours(state, ferry);
            for (int crater = 0; crater < state.waters.craterTotal; crater++) {
                if (ways.byQueue[crater] != ways.byHours[crater]) {
                    return false;
                }
            }
        }
        return true;
    }

    private boolean loadsAgree() {
        for (int ferry = 0; ferry < state.fleet.total; ferry++) {
            if (!state.fleet.underWay(ferry)) {
                loads.gather(state, ferry);
                if (loads.sumByDeciding() != loads.sumByTable()) {
                    return false;
                }
            }
        }
        return true;
    }

    private boolean countsAgree() {
        fares.askAll(state);
        fares.growTree();
        for (int place = 0; place < state.moons.total; place++) {
            int fare = fares.asked[place];
            if (fares.lessInTree(fare) != fares.lessByAsking(fare)) {
                return false;
            }
        }
        return true;
    }

    /** The craters, and the channels between them. */
    private static final class Waters {
        int craterTotal;
        int channelTotal;
        final int[] depths = new int[MAX_CRATERS];
        final int[] ones = new int[MAX_CHANNELS];
        final int[] others = new int[MAX_CHANNELS];
        final int[] lengths = new int[MAX_CHANNELS];
        final int[] sills = new int[MAX_CHANNELS];

        void copyFrom(Waters source) {
            craterTotal = source.craterTotal;
            channelTotal = source.channelTotal;
            System.arraycopy(source.depths, 0, depths, 0, MAX_CRATERS);
            System.arraycopy(source.ones, 0, ones, 0, MAX_CHANNELS);
            System.arraycopy(source.others, 0, others, 0, MAX_CHANNELS);
            System.arraycopy(source.lengths, 0, lengths, 0, MAX_CHANNELS);
            System.arraycopy(source.sills, 0, sills, 0, MAX_CHANNELS);
        }

        boolean hasCrater(int crater) {
            return crater >= 0 && crater < craterTotal;
        }

        boolean hasChannel(int channel) {
            return channel >= 0 && channel < channelTotal;
        }

        int findChannel(int one, int other) {
            for (int channel = 0; channel < channelTotal; channel++) {
                if (one != other && farEnd(channel, one) == other) {
                    return channel;
                }
            }
            return NONE;
        }

        int farEnd(int channel, int crater) {
            if (ones[channel] == crater) {
                return others[channel];
            }
            return others[channel] == crater ? ones[channel] : NONE;
        }

        void dropChannel(int channel) {
            channelTotal--;
            for (int i = channel; i < channelTotal; i++) {
                ones[i] = ones[i + 1];
                others[i] = others[i + 1];
                lengths[i] = lengths[i + 1];
                sills[i] = sills[i + 1];
            }
        }
    }

    /** The ferries and their passages. One at sea keeps the crater that it left, for its channel. */
    private static final class Fleet {
        int total;
        final int[] craters = new int[MAX_FERRIES];
        final int[] targets = new int[MAX_FERRIES];
        final int[] arrivalHours = new int[MAX_FERRIES];
        final int[] draughts = new int[MAX_FERRIES];
        final int[] capacities = new int[MAX_FERRIES];
        int passageTotal;
        int strandingTotal;
        final int[] passageFerries = new int[KEPT_PASSAGES];
        final int[] passageCraters = new int[KEPT_PASSAGES];
        final int[] passageHours = new int[KEPT_PASSAGES];

        void copyFrom(Fleet source) {
            total = source.total;
            System.arraycopy(source.craters, 0, craters, 0, MAX_FERRIES);
            System.arraycopy(source.targets, 0, targets, 0, MAX_FERRIES);
            System.arraycopy(source.arrivalHours, 0, arrivalHours, 0, MAX_FERRIES);
            System.arraycopy(source.draughts, 0, draughts, 0, MAX_FERRIES);
            System.arraycopy(source.capacities, 0, capacities, 0, MAX_FERRIES);
            passageTotal = source.passageTotal;
            strandingTotal = source.strandingTotal;
            System.arraycopy(source.passageFerries, 0, passageFerries, 0, KEPT_PASSAGES);
            System.arraycopy(source.passageCraters, 0, passageCraters, 0, KEPT_PASSAGES);
            System.arraycopy(source.passageHours, 0, passageHours, 0, KEPT_PASSAGES);
        }

        boolean hasFerry(int ferry) {
            return ferry >= 0 && ferry < total;
        }

        boolean underWay(int ferry) {
            return targets[ferry] != NONE;
        }

        boolean anyBetween(int one, int other) {
            for (int ferry = 0; ferry < total; ferry++) {
                boolean there = craters[ferry] == one && targets[ferry] == other;
                boolean back = craters[ferry] == other && targets[ferry] == one;
                if (there || back) {
                    return true;
                }
            }
            return false;
        }

        boolean keepsPassage(int recency) {
            return recency >= 0 && recency < KEPT_PASSAGES && recency < passageTotal;
        }

        int slotOf(int recency) {
            return Math.floorMod(passageTotal - 1 - recency, KEPT_PASSAGES);
        }

        void endPassage(int ferry) {
            craters[ferry] = targets[ferry];
            targets[ferry] = NONE;
            passageTotal++;
            int slot = slotOf(0);
            passageFerries[slot] = ferry;
            passageCraters[slot] = craters[ferry];
            passageHours[slot] = arrivalHours[ferry];
        }
    }

    /** The moons that are present, in the ascending order of their numbers. */
    private static final class Moons {
        int total;
        int nextNumber;
        final int[] numbers = new int[MAX_MOONS];
        final int[] origins = new int[MAX_MOONS];
        final int[] destinations = new int[MAX_MOONS];
        final int[] weights = new int[MAX_MOONS];
        final int[] phases = new int[MAX_MOONS];
        final int[] ferries = new int[MAX_MOONS];
        final int[] shores = new int[MAX_MOONS];

        void copyFrom(Moons source) {
            total = source.total;
            nextNumber = source.nextNumber;
            System.arraycopy(source.numbers, 0, numbers, 0, MAX_MOONS);
            System.arraycopy(source.origins, 0, origins, 0, MAX_MOONS);
            System.arraycopy(source.destinations, 0, destinations, 0, MAX_MOONS);
            System.arraycopy(source.weights, 0, weights, 0, MAX_MOONS);
            System.arraycopy(source.phases, 0, phases, 0, MAX_MOONS);
            System.arraycopy(source.ferries, 0, ferries, 0, MAX_MOONS);
            System.arraycopy(source.shores, 0, shores, 0, MAX_MOONS);
        }

        int placeOf(int moon) {
            for (int place = 0; place < total; place++) {
                if (numbers[place] == moon) {
                    return place;
                }
            }
            return NONE;
        }

        int weightAboard(int ferry) {
            int sum = 0;
            for (int place = 0; place < total; place++) {
                if (ferries[place] == ferry) {
                    sum += weights[place];
                }
            }
            return sum;
        }

        int sumOfPhases() {
            int sum = 0;
            for (int place = 0; place < total; place++) {
                sum += phases[place];
            }
            return sum;
        }

        void increasePhases() {
            for (int place = 0; place < total; place++) {
                phases[place] = (phases[place] + 1) % PHASES;
            }
        }

        void moveAboard(int place, int ferry) {
            ferries[place] = ferry;
            shores[place] = NONE;
        }

        void moveAshore(int place, int crater) {
            ferries[place] = NONE;
            shores[place] = crater;
        }

        void dropMoon(int place) {
            total--;
            for (int i = place; i < total; i++) {
                numbers[i] = numbers[i + 1];
                origins[i] = origins[i + 1];
                destinations[i] = destinations[i + 1];
                weights[i] = weights[i + 1];
                phases[i] = phases[i + 1];
                ferries[i] = ferries[i + 1];
                shores[i] = shores[i + 1];
            }
        }
    }

    /** Everything that a change can change, and that is undone and saved. */
    private static final class State {
        final Waters waters = new Waters();
        final Fleet fleet = new Fleet();
        final Moons moons = new Moons();
        int presentHour;
        int paidFares;
        long purse;

        void copyFrom(State source) {
            waters.copyFrom(source.waters);
            fleet.copyFrom(source.fleet);
            moons.copyFrom(source.moons);
            presentHour = source.presentHour;
            paidFares = source.paidFares;
            purse = source.purse;
        }

        boolean aground(int ferry) {
            if (fleet.underWay(ferry)) {
                return false;
            }
            int depth = waters.depths[fleet.craters[ferry]];
            return depth + tideIn(presentHour) < fleet.draughts[ferry];
        }

        int hoursUntilAshore(int ferry) {
            return fleet.underWay(ferry) ? fleet.arrivalHours[ferry] - presentHour : 0;
        }

        int nextCrater(int ferry) {
            return fleet.underWay(ferry) ? fleet.targets[ferry] : fleet.craters[ferry];
        }
    }

    /** The states before the latest changes, the oldest one first. */
    private static final class History {
        int total;
        private final State[] past = new State[MAX_UNDO];

        History() {
            for (int i = 0; i < MAX_UNDO; i++) {
                past[i] = new State();
            }
        }

        void remember(State earlier) {
            if (total >= MAX_UNDO) {
                forgetOldest();
            }
            past[total].copyFrom(earlier);
            total++;
        }

        // The oldest state moves to the end, to be written over there.
        private void forgetOldest() {
            State oldest = past[0];
            for (int i = 1; i < MAX_UNDO; i++) {
                past[i - 1] = past[i];
            }
            past[MAX_UNDO - 1] = oldest;
            total = MAX_UNDO - 1;
        }

        void takeBack(State present) {
            if (total > 0) {
                total--;
                present.copyFrom(past[total]);
            }
        }
    }

    /** Craters with hours, of which the one with the least hours is taken first. */
    private static final class CraterQueue {
        int takenHours;
        private int total;
        private final int[] craters = new int[MAX_QUEUE];
        private final int[] hours = new int[MAX_QUEUE];

        void reset() {
            total = 0;
        }

        // The least hours stand last, so that taking moves nothing.
        void put(int crater, int atHours) {
            if (total >= MAX_QUEUE) {
                return;
            }
            int place = total;
            while (place > 0 && hours[place - 1] < atHours) {
                craters[place] = craters[place - 1];
                hours[place] = hours[place - 1];
                place--;
            }
            craters[place] = crater;
            hours[place] = atHours;
            total++;
        }

        int take() {
            if (total == 0) {
                return NONE;
            }
            total--;
            takenHours = hours[total];
            return craters[total];
        }
    }

    /** Least hours of ways, cheapest nets, and the earliest hours of ferries within the horizon. */
    private static final class Ways {
        final int[] hoursTo = new int[MAX_CRATERS];
        final int[][] table = new int[MAX_CRATERS][MAX_CRATERS];
        final int[] byQueue = new int[MAX_CRATERS];
        final int[] byHours = new int[MAX_CRATERS];
        private final CraterQueue queue = new CraterQueue();
        private final int[] order = new int[MAX_CHANNELS];
        private final int[] groups = new int[MAX_CRATERS];
        private final int[] arriving = new int[HORIZON + 1];

        void spreadFrom(Waters waters, int from) {
            Arrays.fill(hoursTo, NONE);
            queue.reset();
            queue.put(from, 0);
            for (int taken = 0; taken < MAX_QUEUE; taken++) {
                int crater = queue.take();
                if (crater == NONE) {
                    return;
                }
                if (hoursTo[crater] != NONE) {
                    continue;
                }
                hoursTo[crater] = queue.takenHours;
                for (int channel = 0; channel < waters.channelTotal; channel++) {
                    int next = waters.farEnd(channel, crater);
                    if (next != NONE && hoursTo[next] == NONE) {
                        queue.put(next, hoursTo[crater] + waters.lengths[channel]);
                    }
                }
            }
        }

        void fillTable(Waters waters) {
            for (int one = 0; one < MAX_CRATERS; one++) {
                Arrays.fill(table[one], NONE);
                table[one][one] = 0;
            }
            for (int channel = 0; channel < waters.channelTotal; channel++) {
                int one = waters.ones[channel];
                int other = waters.others[channel];
                table[one][other] = waters.lengths[channel];
                table[other][one] = waters.lengths[channel];
            }
            for (int via = 0; via < waters.craterTotal; via++) {
                shortenOver(waters, via);
            }
        }

        private void shortenOver(Waters waters, int via) {
            for (int one = 0; one < waters.craterTotal; one++) {
                for (int other = 0; other < waters.craterTotal; other++) {
                    if (table[one][via] == NONE || table[via][other] == NONE) {
                        continue;
                    }
                    int hours = table[one][via] + table[via][other];
                    if (table[one][other] == NONE || hours < table[one][other]) {
                        table[one][other] = hours;
                    }
                }
            }
        }

        int netByOrder(Waters waters) {
            orderChannels(waters);
            for (int crater = 0; crater < waters.craterTotal; crater++) {
                groups[crater] = crater;
            }
            int sum = 0;
            int missing = waters.craterTotal - 1;
            for (int i = 0; i < waters.channelTotal; i++) {
                int channel = order[i];
                int one = groups[waters.ones[channel]];
                int other = groups[waters.others[channel]];
                if (one != other) {
                    joinGroups(one, other);
                    sum += waters.lengths[channel];
                    missing--;
                }
            }
            return missing > 0 ? NONE : sum;
        }

        private void orderChannels(Waters waters) {
            for (int channel = 0; channel < waters.channelTotal; channel++) {
                int place = channel;
                while (place > 0 && waters.lengths[order[place - 1]] > waters.lengths[channel]) {
                    order[place] = order[place - 1];
                    place--;
                }
                order[place] = channel;
            }
        }

        private void joinGroups(int kept, int given) {
            for (int crater = 0; crater < MAX_CRATERS; crater++) {
                if (groups[crater] == given) {
                    groups[crater] = kept;
                }
            }
        }

        int netByGrowing(Waters waters) {
            int net = 1;
            int sum = 0;
            for (int joined = 1; joined < waters.craterTotal; joined++) {
                int channel = shortestOutOf(waters, net);
                if (channel == NONE) {
                    return NONE;
                }
                net |= 1 << waters.ones[channel] | 1 << waters.others[channel];
                sum += waters.lengths[channel];
            }
            return sum;
        }

        private int shortestOutOf(Waters waters, int net) {
            int shortest = NONE;
            for (int channel = 0; channel < waters.channelTotal; channel++) {
                int oneIn = net >> waters.ones[channel] & 1;
                int otherIn = net >> waters.others[channel] & 1;
                if (oneIn == otherIn) {
                    continue;
                }
                if (shortest == NONE || waters.lengths[channel] < waters.lengths[shortest]) {
                    shortest = channel;
                }
            }
            return shortest;
        }

        void arriveByQueue(State state, int ferry) {
            Arrays.fill(byQueue, NONE);
            int now = state.presentHour;
            queue.reset();
            queue.put(state.nextCrater(ferry), now + state.hoursUntilAshore(ferry));
            for (int taken = 0; taken < MAX_QUEUE; taken++) {
                int crater = queue.take();
                if (crater == NONE) {
                    return;
                }
                if (byQueue[crater] == NONE) {
                    byQueue[crater] = queue.takenHours;
                    queuePassages(state, ferry, crater);
                }
            }
        }

        private void queuePassages(State state, int ferry, int crater) {
            Waters waters = state.waters;
            int last = state.presentHour + HORIZON;
            int draught = state.fleet.draughts[ferry];
            for (int channel = 0; channel < waters.channelTotal; channel++) {
                int next = waters.farEnd(channel, crater);
                if (next == NONE || byQueue[next] != NONE) {
                    continue;
                }
                int lowest = Math.min(waters.depths[crater], waters.sills[channel]);
                int wait = hoursToWait(byQueue[crater], draught - lowest);
                int arrival = byQueue[crater] + wait + waters.lengths[channel];
                if (wait != NONE && arrival <= last) {
                    queue.put(next, arrival);
                }
            }
        }

        private static int hoursToWait(int from, int neededTide) {
            for (int wait = 0; wait < TIDE_HOURS; wait++) {
                if (tideIn(from + wait) >= neededTide) {
                    return wait;
                }
            }
            return NONE;
        }

        void arriveByHours(State state, int ferry) {
            Arrays.fill(byHours, NONE);
            Arrays.fill(arriving, 0);
            int first = state.hoursUntilAshore(ferry);
            if (first < 0 || first > HORIZON) {
                return;
            }
            arriving[first] = 1 << state.nextCrater(ferry);
            for (int later = first; later <= HORIZON; later++) {
                noteArrivals(state, later);
                for (int channel = 0; channel < state.waters.channelTotal; channel++) {
                    sendThrough(state, ferry, channel, later);
                }
            }
        }

        private void noteArrivals(State state, int later) {
            for (int crater = 0; crater < state.waters.craterTotal; crater++) {
                if (byHours[crater] == NONE && (arriving[later] >> crater & 1) == 1) {
                    byHours[crater] = state.presentHour + later;
                }
            }
        }

        private void sendThrough(State state, int ferry, int channel, int later) {
            Waters waters = state.waters;
            int tideThen = tideIn(state.presentHour + later);
            int draught = state.fleet.draughts[ferry];
            int arrival = later + waters.lengths[channel];
            if (waters.sills[channel] + tideThen < draught || arrival > HORIZON) {
                return;
            }
            int one = waters.ones[channel];
            int other = waters.others[channel];
            if (byHours[one] != NONE && waters.depths[one] + tideThen >= draught) {
                arriving[arrival] |= 1 << other;
            }
            if (byHours[other] != NONE && waters.depths[other] + tideThen >= draught) {
                arriving[arrival] |= 1 << one;
            }
        }
    }

    /** Fares of moons by their places, their ranks, and a tree of them. */
    private static final class Fares {
        final Ways ways = new Ways();
        final int[] asked = new int[MAX_MOONS];
        private int total;
        private int treeTotal;
        private final int[] treeFares = new int[MAX_MOONS];
        private final int[] sames = new int[MAX_MOONS];
        private final int[] lesser = new int[MAX_MOONS];
        private final int[] lefts = new int[MAX_MOONS];
        private final int[] rights = new int[MAX_MOONS];

        int fareAt(State state, int place) {
            ways.spreadFrom(state.waters, state.moons.origins[place]);
            int hours = ways.hoursTo[state.moons.destinations[place]];
            int phase = state.moons.phases[place];
            int light = phase <= FULL_PHASE ? phase : PHASES - phase;
            return hours == NONE ? 0 : hours * (light + 1);
        }

        void askAll(State state) {
            total = state.moons.total;
            for (int place = 0; place < total; place++) {
                asked[place] = fareAt(state, place);
            }
        }

        int placeAtRank(int rank) {
            for (int place = 0; place < total; place++) {
                if (rankOf(place) == rank) {
                    return place;
                }
            }
            return 0;
        }

        private int rankOf(int place) {
            int ahead = 0;
            for (int i = 0; i < total; i++) {
                if (asked[i] > asked[place] || asked[i] == asked[place] && i < place) {
                    ahead++;
                }
            }
            return ahead;
        }

        int lessByAsking(int fare) {
            int less = 0;
            for (int place = 0; place < total; place++) {
                if (asked[place] < fare) {
                    less++;
                }
            }
            return less;
        }

        void growTree() {
            treeTotal = 0;
            for (int place = 0; place < total; place++) {
                plant(asked[place]);
            }
        }

        private void plant(int fare) {
            int node = treeTotal == 0 ? NONE : 0;
            int parent = NONE;
            boolean goLeft = false;
            for (int level = 0; level < MAX_MOONS && node != NONE; level++) {
                if (treeFares[node] == fare) {
                    sames[node]++;
                    return;
                }
                parent = node;
                goLeft = fare < treeFares[node];
                if (goLeft) {
                    lesser[node]++;
                }
                node = goLeft ? lefts[node] : rights[node];
            }
            hang(fare, parent, goLeft);
        }

        private void hang(int fare, int parent, boolean asLeft) {
            if (treeTotal >= MAX_MOONS) {
                return;
            }
            int node = treeTotal;
            treeTotal++;
            treeFares[node] = fare;
            sames[node] = 1;
            lesser[node] = 0;
            lefts[node] = NONE;
            rights[node] = NONE;
            if (parent == NONE) {
                return;
            }
            if (asLeft) {
                lefts[parent] = node;
            } else {
                rights[parent] = node;
            }
        }

        int lessInTree(int fare) {
            int less = 0;
            int node = treeTotal == 0 ? NONE : 0;
            for (int level = 0; level < MAX_MOONS && node != NONE; level++) {
                if (fare <= treeFares[node]) {
                    node = lefts[node];
                } else {
                    less += lesser[node] + sames[node];
                    node = rights[node];
                }
            }
            return less;
        }
    }

    /** The moons that could be loaded, in the order of their numbers, and the best set of them. */
    private static final class Loads {
        int total;
        int bestSet;
        final int[] places = new int[MAX_MOONS];
        final Fares fares = new Fares();
        private int room;
        private int bestSum;
        private final int[] weights = new int[MAX_MOONS];
        private final int[] worths = new int[MAX_MOONS];
        private final int[] sums = new int[MAX_CAPACITY + 1];

        void gather(State state, int ferry) {
            Moons moons = state.moons;
            int crater = state.fleet.craters[ferry];
            room = state.fleet.capacities[ferry] - moons.weightAboard(ferry);
            total = 0;
            for (int place = 0; place < moons.total; place++) {
                if (moons.shores[place] == crater && moons.phases[place] != 0) {
                    places[total] = place;
                    weights[total] = moons.weights[place];
                    worths[total] = fares.fareAt(state, place);
                    total++;
                }
            }
        }

        int sumByDeciding() {
            bestSum = NONE;
            bestSet = 0;
            decide(0, room, 0, 0);
            return bestSum;
        }

        // Taking comes first: of equal sums the first one found has the lowest numbers.
        private void decide(int moon, int roomLeft, int sum, int set) {
            if (moon >= total) {
                if (sum > bestSum) {
                    bestSum = sum;
                    bestSet = set;
                }
                return;
            }
            if (weights[moon] <= roomLeft) {
                decide(moon + 1, roomLeft - weights[moon], sum + worths[moon], set | 1 << moon);
            }
            decide(moon + 1, roomLeft, sum, set);
        }

        int sumByTable() {
            if (room < 0 || room > MAX_CAPACITY) {
                return 0;
            }
            Arrays.fill(sums, 0);
            for (int moon = 0; moon < total; moon++) {
                for (int used = room; used >= weights[moon]; used--) {
                    int taken = sums[used - weights[moon]] + worths[moon];
                    sums[used] = Math.max(sums[used], taken);
                }
            }
            return sums[room];
        }
    }

    /** Carries out changes. One that is not due answers a negative number and changes nothing. */
    private static final class Clerk {
        int reason = NONE;
        final State state = new State();
        final Loads loads = new Loads();
        private final Waters waters = state.waters;
        private final Fleet fleet = state.fleet;
        private final Moons moons = state.moons;

        int openCrater(int depth) {
            if (depth < 0 || depth > MAX_DEPTH) {
                return BAD_ARGUMENT;
            }
            if (waters.craterTotal >= MAX_CRATERS) {
                return BAD_STATE;
            }
            int crater = waters.craterTotal;
            waters.depths[crater] = depth;
            waters.craterTotal++;
            return crater;
        }

        int openChannel(int one, int other, int hours, int sill) {
            if (!waters.hasCrater(one) || !waters.hasCrater(other)) {
                return NO_INDEX;
            }
            boolean hoursFit = hours >= 1 && hours <= MAX_CHANNEL_HOURS;
            boolean sillFits = sill >= 0 && sill <= MAX_SILL;
            if (one == other || !hoursFit || !sillFits) {
                return BAD_ARGUMENT;
            }
            if (waters.channelTotal >= MAX_CHANNELS || waters.findChannel(one, other) != NONE) {
                return BAD_STATE;
            }
            int channel = waters.channelTotal;
            waters.ones[channel] = one;
            waters.others[channel] = other;
            waters.lengths[channel] = hours;
            waters.sills[channel] = sill;
            waters.channelTotal++;
            return channel;
        }

        int closeChannel(int channel) {
            if (!waters.hasChannel(channel)) {
                return NO_INDEX;
            }
            if (fleet.anyBetween(waters.ones[channel], waters.others[channel])) {
                return BAD_STATE;
            }
            waters.dropChannel(channel);
            return waters.channelTotal;
        }

        int enlistFerry(int crater, int draught, int capacity) {
            if (!waters.hasCrater(crater)) {
                return NO_INDEX;
            }
            boolean draughtFits = draught >= 1 && draught <= MAX_DRAUGHT;
            boolean capacityFits = capacity >= 1 && capacity <= MAX_CAPACITY;
            if (!draughtFits || !capacityFits) {
                return BAD_ARGUMENT;
            }
            if (fleet.total >= MAX_FERRIES) {
                return BAD_STATE;
            }
            int ferry = fleet.total;
            fleet.craters[ferry] = crater;
            fleet.targets[ferry] = NONE;
            fleet.arrivalHours[ferry] = 0;
            fleet.draughts[ferry] = draught;
            fleet.capacities[ferry] = capacity;
            fleet.total++;
            return ferry;
        }

        int beginPassage(int ferry, int crater) {
            if (!fleet.hasFerry(ferry) || !waters.hasCrater(crater)) {
                return NO_INDEX;
            }
            if (fleet.underWay(ferry)) {
                return BAD_STATE;
            }
            int channel = waters.findChannel(fleet.craters[ferry], crater);
            if (channel == NONE) {
                return refuse(NO_CHANNEL);
            }
            if (state.aground(ferry)) {
                return refuse(SAILING_STRANDED);
            }
            if (waters.sills[channel] + tideIn(state.presentHour) < fleet.draughts[ferry]) {
                return refuse(CHANNEL_SHUT);
            }
            fleet.targets[ferry] = crater;
            fleet.arrivalHours[ferry] = state.presentHour + waters.lengths[channel];
            return fleet.arrivalHours[ferry];
        }

        int enlistMoon(int crater, int destination, int weight, int phase) {
            if (!waters.hasCrater(crater) || !waters.hasCrater(destination)) {
                return NO_INDEX;
            }
            boolean weightFits = weight >= 1 && weight <= MAX_WEIGHT;
            boolean phaseFits = phase >= 0 && phase < PHASES;
            if (crater == destination || !weightFits || !phaseFits) {
                return BAD_ARGUMENT;
            }
            if (moons.total >= MAX_MOONS) {
                return BAD_STATE;
            }
            int place = moons.total;
            moons.numbers[place] = moons.nextNumber;
            moons.origins[place] = crater;
            moons.destinations[place] = destination;
            moons.weights[place] = weight;
            moons.phases[place] = phase;
            moons.moveAshore(place, crater);
            moons.total++;
            moons.nextNumber++;
            return moons.numbers[place];
        }

        int takeAboard(int ferry, int moon) {
            if (!fleet.hasFerry(ferry)) {
                return NO_INDEX;
            }
            int place = moons.placeOf(moon);
            if (place == NONE) {
                return NO_ELEMENT;
            }
            if (moons.ferries[place] != NONE) {
                return BAD_STATE;
            }
            int weight = moons.weightAboard(ferry) + moons.weights[place];
            if (fleet.underWay(ferry) || moons.shores[place] != fleet.craters[ferry]) {
                return refuse(NOT_TOGETHER);
            }
            if (state.aground(ferry)) {
                return refuse(BOARDING_STRANDED);
            }
            if (weight > fleet.capacities[ferry]) {
                return refuse(TOO_HEAVY);
            }
            if (moons.phases[place] == 0) {
                return refuse(NEW_MOON);
            }
            moons.moveAboard(place, ferry);
            return weight;
        }

        int putAshore(int moon) {
            int place = moons.placeOf(moon);
            if (place == NONE) {
                return NO_ELEMENT;
            }
            int ferry = moons.ferries[place];
            if (ferry == NONE) {
                return BAD_STATE;
            }
            if (fleet.underWay(ferry) || state.aground(ferry)) {
                return REFUSED;
            }
            int crater = fleet.craters[ferry];
            if (moons.destinations[place] != crater) {
                moons.moveAshore(place, crater);
                return 0;
            }
            int fare = loads.fares.fareAt(state, place);
            state.paidFares += fare;
            state.purse += fare;
            moons.dropMoon(place);
            return fare;
        }

        int takeBestLoad(int ferry) {
            if (!fleet.hasFerry(ferry)) {
                return NO_INDEX;
            }
            if (fleet.underWay(ferry) || state.aground(ferry)) {
                return REFUSED;
            }
            loads.gather(state, ferry);
            loads.sumByDeciding();
            int boarded = 0;
            for (int i = 0; i < loads.total; i++) {
                if ((loads.bestSet >> i & 1) == 1) {
                    moons.moveAboard(loads.places[i], ferry);
                    boarded++;
                }
            }
            return boarded;
        }

        int pullFree(int ferry) {
            if (!fleet.hasFerry(ferry)) {
                return NO_INDEX;
            }
            if (!state.aground(ferry)) {
                return BAD_STATE;
            }
            int left = 0;
            for (int place = 0; place < moons.total; place++) {
                if (moons.ferries[place] == ferry) {
                    moons.moveAshore(place, fleet.craters[ferry]);
                    left++;
                }
            }
            state.purse -= RESCUE_COINS * left;
            return left;
        }

        int letPass(int hours) {
            if (hours < 1 || hours > MAX_PASS) {
                return BAD_ARGUMENT;
            }
            int arrived = 0;
            for (int i = 0; i < hours; i++) {
                arrived += letOneHourPass();
            }
            return arrived;
        }

        private int letOneHourPass() {
            state.presentHour++;
            if (state.presentHour % PHASE_HOURS == 0) {
                moons.increasePhases();
            }
            int arrived = 0;
            for (int ferry = 0; ferry < fleet.total; ferry++) {
                if (fleet.underWay(ferry) && fleet.arrivalHours[ferry] == state.presentHour) {
                    fleet.endPassage(ferry);
                    fleet.strandingTotal += state.aground(ferry) ? 1 : 0;
                    arrived++;
                }
            }
            return arrived;
        }

        private int refuse(int why) {
            reason = why;
            return REFUSED;
        }
    }

    /** The command text, and the commands that were read from it last. */
    private static final class CommandText {
        private static final char DIGIT = '#';
        private static final char NUMBER = '*';

        int length;
        int commandTotal;
        final int[] kinds = new int[MAX_COMMANDS];
        private final char[] signs = new char[MAX_TEXT];
        private final int[] numbers = new int[MAX_COMMANDS * COMMAND_NUMBERS];

        void addSign(char sign) {
            if (length < MAX_TEXT) {
                signs[length] = sign;
                length++;
            }
        }

        int numberOf(int command, int index) {
            return numbers[command * COMMAND_NUMBERS + index];
        }

        // Answers the error position, or NONE if the text is a command text.
        int parse() {
            commandTotal = 0;
            int at = 0;
            while (commandTotal < MAX_COMMANDS) {
                int end = readCommand(at);
                if (end < 0) {
                    return -1 - end;
                }
                commandTotal++;
                if (end >= length) {
                    return NONE;
                }
                if (signs[end] != ';') {
                    return end;
                }
                at = end + 1;
            }
            return at;
        }

        // Answers where the command ends, or -1 less the position that no command can pass.
        private int readCommand(int from) {
            int farthest = -1 - from;
            for (int kind = 0; kind < COMMAND_KINDS; kind++) {
                int end = readForm(formOf(kind), from);
                if (end >= 0) {
                    kinds[commandTotal] = kind;
                    return end;
                }
                farthest = Math.min(farthest, end);
            }
            return farthest;
        }

        private int readForm(String form, int from) {
            int at = from;
            int slot = commandTotal * COMMAND_NUMBERS;
            for (int i = 0; i < form.length(); i++) {
                char wanted = form.charAt(i);
                boolean isValue = wanted == DIGIT || wanted == NUMBER;
                if (isValue ? !isDigit(at) : !isSign(at, wanted)) {
                    return -1 - at;
                }
                if (isValue) {
                    int value = signs[at] - '0';
                    if (wanted == NUMBER && isDigit(at + 1)) {
                        at++;
                        value = value * 10 + signs[at] - '0';
                    }
                    numbers[slot] = value;
                    slot++;
                }
                at++;
            }
            return at;
        }

        private boolean isSign(int at, char sign) {
            return at < length && signs[at] == sign;
        }

        private boolean isDigit(int at) {
            return at < length && signs[at] >= '0' && signs[at] <= '9';
        }

        private static String formOf(int kind) {
            switch (kind) {
                case CRATER:
                    return "crater #";
                case CHANNEL:
                    return "channel ## # #";
                case FERRY:
                    return "ferry # * *";
                case MOON:
                    return "moon ## * #";
                case SAIL:
                    return "sail # #";
                case BOARD:
                    return "board # *";
                case LAND:
                    return "land *";
                case LOAD:
                    return "load #";
                case RESCUE:
                    return "rescue #";
                default:
                    return "pass *";
            }
        }
    }
}
