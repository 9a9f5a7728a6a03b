import java.util.Arrays;

/** Streams through pipes that take time, from places with units to the exit. */
public final class PipeMoments {
    public static final int INVALID_ARGUMENT = -1000001;
    public static final int NOT_POSSIBLE = -1000002;
    public static final int LIMIT_REACHED = -1000003;
    public static final int NOT_FOUND = -1000004;

    private static final int NONE = -1;
    private static final int EXIT = 0;
    private static final int PLACES = 6;
    private static final int PIPES = 10;
    private static final int TICKS = 16;
    private static final int LAST_TICK = 15;
    private static final int MOST_UNITS = 20;
    private static final int MOST_ROOM = 40;
    private static final int MOST_TIME = 4;
    private static final int MOST_BOUND = 9;
    private static final int MOST_WANTED = 120;
    private static final int STATES = 4;
    private static final int SIGNS = 60;

    // the parts of a pipe, numbered as pipeOf numbers them
    private static final int FROM = 0;
    private static final int TO = 1;
    private static final int TIME = 2;
    private static final int BOUND = 3;
    private static final int FIRST = 4;
    private static final int LAST = 5;
    private static final int PARTS = 6;

    private final Layout laid = new Layout();
    private final History history = new History();
    private final Stream stream = new Stream();
    private final Settings settings = new Settings();

    public PipeMoments() {
    }

    // ---- what is laid

    public int place(int units, int room) {
        if (laid.badOfPlace(units, room) != NONE) {
            return INVALID_ARGUMENT;
        }
        if (laid.placesAreFull()) {
            return LIMIT_REACHED;
        }
        history.keep(laid);
        return laid.addPlace(units, room);
    }

    public int pipe(int from, int to, int time, int bound) {
        if (laid.badOfPipe(from, to, time, bound) != NONE) {
            return INVALID_ARGUMENT;
        }
        if (laid.pipesAreFull()) {
            return LIMIT_REACHED;
        }
        history.keep(laid);
        return laid.addPipe(from, to, time, bound);
    }

    public int dropPipe(int pipe) {
        if (!laid.isPipe(pipe)) {
            return INVALID_ARGUMENT;
        }
        history.keep(laid);
        laid.removePipe(pipe);
        return laid.pipeCount;
    }

    public int open(int pipe, int first, int last) {
        if (laid.badOfOpening(pipe, first, last) != NONE) {
            return INVALID_ARGUMENT;
        }
        history.keep(laid);
        laid.setOpening(pipe, first, last);
        return Math.max(0, last - first + 1);
    }

    public int widen(int pipe, int bound) {
        if (!laid.isPipe(pipe) || !within(bound, 1, MOST_BOUND)) {
            return INVALID_ARGUMENT;
        }
        history.keep(laid);
        int before = laid.partOf(pipe, BOUND);
        laid.setPart(pipe, BOUND, bound);
        return before;
    }

    public int units(int place, int units) {
        if (laid.badOfUnits(place, units) != NONE) {
            return INVALID_ARGUMENT;
        }
        history.keep(laid);
        int before = laid.unitsAt[place];
        laid.unitsAt[place] = units;
        return before;
    }

    public int room(int place, int room) {
        if (!laid.isPlace(place) || !within(room, 0, MOST_ROOM)) {
            return INVALID_ARGUMENT;
        }
        history.keep(laid);
        int before = laid.roomAt[place];
        laid.roomAt[place] = room;
        return before;
    }

    public int pipeOf(int pipe, int what) {
        if (!laid.isPipe(pipe) || !within(what, 0, PARTS - 1)) {
            return INVALID_ARGUMENT;
        }
        return laid.partOf(pipe, what);
    }

    public int placeOf(int place, int what) {
        if (!laid.isPlace(place)) {
            return INVALID_ARGUMENT;
        }
        switch (what) {
            case 0:
                return laid.unitsAt[place];
            case 1:
                return laid.roomAt[place];
            case 2:
                return laid.pipesWith(FROM, place);
            case 3:
                return laid.pipesWith(TO, place);
            case 4:
                return stream.leastTickAlone(laid, place);
            default:
                return INVALID_ARGUMENT;
        }
    }

    // ---- what can come

    public int come(int tick) {
        return isTick(tick) ? stream.most(laid, tick) : INVALID_ARGUMENT;
    }

    public int earliest(int many) {
        if (!within(many, -1, MOST_WANTED)) {
            return INVALID_ARGUMENT;
        }
        return stream.leastTick(laid, many == -1 ? laid.allUnits() : many);
    }

    public int repeated(int place, int tick) {
        if (!laid.isPlace(place) || place == EXIT || !isTick(tick)) {
            return INVALID_ARGUMENT;
        }
        return stream.mostRepeated(laid, place, tick);
    }

    public int narrow(int tick) {
        if (!isTick(tick)) {
            return INVALID_ARGUMENT;
        }
        stream.most(laid, tick);
        return stream.narrowPipes(tick);
    }

    public int wanting(int tick, int place, int at) {
        if (!isTick(tick) || !laid.isPlace(place) || !within(at, 0, tick)) {
            return INVALID_ARGUMENT;
        }
        stream.most(laid, tick);
        return stream.isWanting(place, at) ? 1 : 0;
    }

    // ---- what would be

    public int dearest(int tick, int what) {
        if (!isTick(tick) || !within(what, 0, 1)) {
            return INVALID_ARGUMENT;
        }
        if (laid.pipeCount == 0) {
            return NOT_FOUND;
        }
        int fewest = stream.most(laid, tick);
        int used = stream.usedPipes();
        int dearest = 0;
        for (int pipe = 0; pipe < laid.pipeCount; pipe++) {
            // a pipe that a best plan does not use can be missed at no loss
            int without = has(used, pipe) ? stream.mostWithout(laid, pipe, tick) : fewest;
            if (without < fewest) {
                fewest = without;
                dearest = pipe;
            }
        }
        return what == 0 ? dearest : fewest;
    }

    public int helpful(int tick, int what) {
        if (!isTick(tick) || !within(what, 0, 1)) {
            return INVALID_ARGUMENT;
        }
        int most = stream.most(laid, tick);
        int narrowOnes = stream.narrowPipes(tick);
        int greatest = 0;
        int helpful = NONE;
        for (int pipe = 0; pipe < laid.pipeCount; pipe++) {
            // the narrow pipes alone hold the wanting places back from the exit
            int gain = has(narrowOnes, pipe) ? stream.mostWider(laid, pipe, tick) - most : 0;
            if (gain > greatest) {
                greatest = gain;
                helpful = pipe;
            }
        }
        if (helpful == NONE) {
            return NOT_FOUND;
        }
        return what == 0 ? helpful : greatest;
    }

    public int withOneMore(int tick, int place) {
        if (!isTick(tick) || !laid.isPlace(place)) {
            return INVALID_ARGUMENT;
        }
        return stream.mostWithUnit(laid, place, tick);
    }

    public int count(int what) {
        switch (what) {
            case 0:
                return laid.placeCount;
            case 1:
                return laid.pipeCount;
            case 2:
                return laid.allUnits();
            case 3:
                return laid.allBounds();
            case 4:
                return history.kept;
            case 5:
                return settings.length;
            default:
                return INVALID_ARGUMENT;
        }
    }

    public int undo() {
        if (history.kept == 0) {
            return NOT_POSSIBLE;
        }
        history.restore(laid);
        return history.kept;
    }

    // ---- texts

    public int type(int character) {
        if (!within(character, 32, 126)) {
            return INVALID_ARGUMENT;
        }
        return settings.append((char) character);
    }

    public int clearText() {
        return settings.empty();
    }

    public int fault(int what) {
        if (!within(what, 0, 2)) {
            return INVALID_ARGUMENT;
        }
        settings.read(laid);
        switch (settings.reason) {
            case Settings.FAULTLESS:
                return NOT_FOUND;
            case Settings.BEYOND_LIMIT:
                return what == 2 ? NOT_FOUND : settings.faultPart(what);
            default:
                return settings.faultPart(what);
        }
    }

    public int play() {
        settings.read(laid);
        if (settings.reason != Settings.FAULTLESS) {
            return NOT_POSSIBLE;
        }
        history.keep(laid);
        laid.copyFrom(settings.trial);
        return settings.settled;
    }

    private static boolean within(int number, int least, int greatest) {
        return number >= least && number <= greatest;
    }

    private static boolean isTick(int tick) {
        return within(tick, 0, LAST_TICK);
    }

    private static boolean has(int set, int number) {
        return (set >> number & 1) == 1;
    }

    /** What is laid: the places, and the pipes between them. */
    private static final class Layout {
        private final int[] unitsAt = new int[PLACES];
        private final int[] roomAt = new int[PLACES];
        private final int[] parts = new int[PIPES * PARTS];
        private int placeCount = 1;
        private int pipeCount = 0;

        Layout() {
            roomAt[EXIT] = MOST_ROOM;
        }

        void copyFrom(Layout other) {
            System.arraycopy(other.unitsAt, 0, unitsAt, 0, PLACES);
            System.arraycopy(other.roomAt, 0, roomAt, 0, PLACES);
            System.arraycopy(other.parts, 0, parts, 0, PIPES * PARTS);
            placeCount = other.placeCount;
            pipeCount = other.pipeCount;
        }

        boolean isPlace(int place) {
            return within(place, 0, placeCount - 1);
        }

        boolean isPipe(int pipe) {
            return within(pipe, 0, pipeCount - 1);
        }

        boolean placesAreFull() {
            return placeCount >= PLACES;
        }

        boolean pipesAreFull() {
            return pipeCount >= PIPES;
        }

        // The four below tell which of the numbers is wrong, the first one from 0, or NONE.

        int badOfPlace(int units, int room) {
            if (!within(units, 0, MOST_UNITS)) {
                return 0;
            }
            return within(room, 0, MOST_ROOM) ? NONE : 1;
        }

        int badOfPipe(int from, int to, int time, int bound) {
            if (!isPlace(from)) {
                return 0;
            }
            if (!isPlace(to) || to == from) {
                return 1;
            }
            if (!within(time, 1, MOST_TIME)) {
                return 2;
            }
            return within(bound, 1, MOST_BOUND) ? NONE : 3;
        }

        int badOfOpening(int pipe, int first, int last) {
            if (!isPipe(pipe)) {
                return 0;
            }
            if (!isTick(first)) {
                return 1;
            }
            return isTick(last) ? NONE : 2;
        }

        int badOfUnits(int place, int units) {
            if (!isPlace(place)) {
                return 0;
            }
            return within(units, 0, MOST_UNITS) ? NONE : 1;
        }

        int addPlace(int units, int room) {
            unitsAt[placeCount] = units;
            roomAt[placeCount] = room;
            placeCount++;
            return placeCount - 1;
        }

        int addPipe(int from, int to, int time, int bound) {
            int pipe = pipeCount;
            pipeCount++;
            setPart(pipe, FROM, from);
            setPart(pipe, TO, to);
            setPart(pipe, TIME, time);
            setPart(pipe, BOUND, bound);
            setOpening(pipe, 0, LAST_TICK);
            return pipe;
        }

        void removePipe(int pipe) {
            int behind = (pipe + 1) * PARTS;
            System.arraycopy(parts, behind, parts, pipe * PARTS, PIPES * PARTS - behind);
            pipeCount--;
        }

        void setOpening(int pipe, int first, int last) {
            setPart(pipe, FIRST, first);
            setPart(pipe, LAST, last);
        }

        int partOf(int pipe, int part) {
            return parts[pipe * PARTS + part];
        }

        void setPart(int pipe, int part, int number) {
            parts[pipe * PARTS + part] = number;
        }

        /** The bound that a pipe has in a tick: none while it is not open. */
        int boundIn(int pipe, int tick) {
            return within(tick, partOf(pipe, FIRST), partOf(pipe, LAST)) ? partOf(pipe, BOUND) : 0;
        }

        int pipesWith(int part, int number) {
            int set = 0;
            for (int pipe = 0; pipe < pipeCount; pipe++) {
                if (partOf(pipe, part) == number) {
                    set |= 1 << pipe;
                }
            }
            return set;
        }

        int allUnits() {
            int all = 0;
            for (int place = 0; place < placeCount; place++) {
                all += unitsAt[place];
            }
            return all;
        }

        int allBounds() {
            int all = 0;
            for (int pipe = 0; pipe < pipeCount; pipe++) {
                all += partOf(pipe, BOUND);
            }
            return all;
        }
    }

    /** The latest states, the oldest one first; its rows are made once and used again. */
    private static final class History {
        private final Layout[] states = new Layout[STATES];
        private int kept = 0;

        History() {
            for (int state = 0; state < STATES; state++) {
                states[state] = new Layout();
            }
        }

        void keep(Layout now) {
            if (kept == STATES) {
                dropOldest();
            }
            states[kept].copyFrom(now);
            kept++;
        }

        /** Needs a state that is kept. */
        void restore(Layout into) {
            kept--;
            into.copyFrom(states[kept]);
        }

        private void dropOldest() {
            Layout oldest = states[0];
            for (int state = 1; state < STATES; state++) {
                states[state - 1] = states[state];
            }
            states[STATES - 1] = oldest;
            kept--;
        }
    }

    /**
     * The greatest stream through the moments: a moment is a place at a tick, and its number is
     * place * TICKS + tick. Units go from moment to moment by ways: through a pipe from a tick
     * on, by waiting, or by setting out. A way has an even number; the odd one behind it is the
     * way back, by which as many units can be taken from it as it carries.
     */
    private static final class Stream {
        private static final int MOMENTS = PLACES * TICKS;
        private static final int FIRST_WAITING = 2 * PIPES * TICKS;
        private static final int FIRST_SETTING_OUT = FIRST_WAITING + 2 * MOMENTS;
        private static final int WAYS = FIRST_SETTING_OUT + 2 * PLACES;
        private static final int ENDLESS = 1000000;

        private final Layout net = new Layout();
        private final int[] left = new int[WAYS];
        private final int[] reachedBy = new int[MOMENTS];
        private final int[] reachedFrom = new int[MOMENTS];
        private final int[] queue = new int[MOMENTS];
        private int queued = 0;
        private int arrival = NONE;

        int most(Layout laid, int tick) {
            net.copyFrom(laid);
            return mostBy(tick);
        }

        int mostWithout(Layout laid, int pipe, int tick) {
            net.copyFrom(laid);
            net.setPart(pipe, BOUND, 0);
            return mostBy(tick);
        }

        int mostWider(Layout laid, int pipe, int tick) {
            net.copyFrom(laid);
            net.setPart(pipe, BOUND, laid.partOf(pipe, BOUND) + 1);
            return mostBy(tick);
        }

        int mostWithUnit(Layout laid, int place, int tick) {
            net.copyFrom(laid);
            net.unitsAt[place]++;
            return mostBy(tick);
        }

        int mostRepeated(Layout laid, int place, int tick) {
            net.copyFrom(laid);
            Arrays.fill(net.unitsAt, 0);
            Arrays.fill(net.roomAt, 0);
            // a place that has units without end and keeps them can send some in every tick
            net.unitsAt[place] = ENDLESS;
            net.roomAt[place] = ENDLESS;
            for (int pipe = 0; pipe < net.pipeCount; pipe++) {
                net.setOpening(pipe, 0, LAST_TICK);
            }
            return mostBy(tick);
        }

        int leastTick(Layout laid, int many) {
            net.copyFrom(laid);
            return leastTickFor(many);
        }

        int leastTickAlone(Layout laid, int place) {
            net.copyFrom(laid);
            Arrays.fill(net.unitsAt, 0);
            net.unitsAt[place] = 1;
            return leastTickFor(1);
        }

        /** The pipes that carry units in the plan that was found last. */
        int usedPipes() {
            int set = 0;
            for (int pipe = 0; pipe < net.pipeCount; pipe++) {
                for (int tick = 0; tick < TICKS; tick++) {
                    if (left[back(through(pipe, tick))] > 0) {
                        set |= 1 << pipe;
                    }
                }
            }
            return set;
        }

        /** Of the plan that was found last: the search that found no more reached what is wanting. */
        boolean isWanting(int place, int tick) {
            return reachedBy[place * TICKS + tick] != NONE;
        }

        /** The narrow pipes of the plan that was found last, which was one for this tick. */
        int narrowPipes(int tick) {
            int set = 0;
            for (int pipe = 0; pipe < net.pipeCount; pipe++) {
                if (isNarrow(pipe, tick)) {
                    set |= 1 << pipe;
                }
            }
            return set;
        }

        private boolean isNarrow(int pipe, int tick) {
            int from = net.partOf(pipe, FROM);
            int to = net.partOf(pipe, TO);
            int time = net.partOf(pipe, TIME);
            for (int at = 0; at + time <= tick; at++) {
                boolean canBeEntered = net.boundIn(pipe, at) > 0;
                if (canBeEntered && isWanting(from, at) && !isWanting(to, at + time)) {
                    return true;
                }
            }
            return false;
        }

        private int mostBy(int tick) {
            begin();
            return net.unitsAt[EXIT] + moreBy(tick);
        }

        private int leastTickFor(int many) {
            begin();
            int come = net.unitsAt[EXIT];
            // what has come by a tick is there in the next one too: each tick goes on from the plan before
            for (int tick = 0; tick < TICKS; tick++) {
                come += moreBy(tick);
                if (come >= many) {
                    return tick;
                }
            }
            return NOT_FOUND;
        }

        private static int through(int pipe, int tick) {
            return 2 * (pipe * TICKS + tick);
        }

        private static int waiting(int moment) {
            return FIRST_WAITING + 2 * moment;
        }

        private static int settingOut(int place) {
            return FIRST_SETTING_OUT + 2 * place;
        }

        /** The way back of a way, and the way of a way back. */
        private static int back(int way) {
            return way ^ 1;
        }

        /** A plan in which nothing goes. */
        private void begin() {
            for (int pipe = 0; pipe < net.pipeCount; pipe++) {
                for (int tick = 0; tick < TICKS; tick++) {
                    bind(through(pipe, tick), net.boundIn(pipe, tick));
                }
            }
            for (int place = 0; place < net.placeCount; place++) {
                bind(settingOut(place), net.unitsAt[place]);
                for (int tick = 0; tick < TICKS; tick++) {
                    bind(waiting(place * TICKS + tick), net.roomAt[place]);
                }
            }
        }

        private void bind(int way, int limit) {
            left[way] = limit;
            left[back(way)] = 0;
        }

        /** Improves the plan until no more can come by the tick; returns how many more come. */
        private int moreBy(int tick) {
            int more = 0;
            // each round brings a unit at least, and no more than ENDLESS can set out
            for (int round = 0; round < ENDLESS; round++) {
                search(tick);
                if (arrival == NONE) {
                    break;
                }
                more += carryToArrival();
            }
            return more;
        }

        /** Finds how one unit more could come to the exit by the tick, the fewest ways first. */
        private void search(int tick) {
            Arrays.fill(reachedBy, NONE);
            queued = 0;
            arrival = NONE;
            for (int place = EXIT + 1; place < net.placeCount; place++) {
                tryWay(NONE, settingOut(place), place * TICKS);
            }
            for (int head = 0; head < MOMENTS && head < queued && arrival == NONE; head++) {
                spread(queue[head], tick);
            }
        }

        private void spread(int moment, int tick) {
            int place = moment / TICKS;
            int at = moment % TICKS;
            for (int pipe = 0; pipe < net.pipeCount; pipe++) {
                int from = net.partOf(pipe, FROM);
                int to = net.partOf(pipe, TO);
                int time = net.partOf(pipe, TIME);
                if (from == place && at + time <= tick) {
                    tryWay(moment, through(pipe, at), to * TICKS + at + time);
                } else if (to == place && at - time >= 0) {
                    tryWay(moment, back(through(pipe, at - time)), from * TICKS + at - time);
                }
            }
            if (at + 1 <= tick) {
                tryWay(moment, waiting(moment), moment + 1);
            }
            if (at - 1 >= 0) {
                tryWay(moment, back(waiting(moment - 1)), moment - 1);
            }
        }

        private void tryWay(int from, int way, int to) {
            if (reachedBy[to] != NONE || left[way] == 0) {
                return;
            }
            reachedBy[to] = way;
            reachedFrom[to] = from;
            queue[queued] = to;
            queued++;
            // units that have come to the exit stay there
            if (to < TICKS) {
                arrival = to;
            }
        }

        /** Lets as many units as possible go as the search has found; returns how many. */
        private int carryToArrival() {
            int amount = ENDLESS;
            int moment = arrival;
            for (int steps = 0; steps < MOMENTS && moment != NONE; steps++) {
                amount = Math.min(amount, left[reachedBy[moment]]);
                moment = reachedFrom[moment];
            }
            moment = arrival;
            for (int steps = 0; steps < MOMENTS && moment != NONE; steps++) {
                int way = reachedBy[moment];
                left[way] -= amount;
                left[back(way)] += amount;
                moment = reachedFrom[moment];
            }
            return amount;
        }
    }

    /** The text, and what its settings do when they are tried on a layout. */
    private static final class Settings {
        private static final int FAULTLESS = 0;
        private static final int NOT_OF_THE_FORM = 1;
        private static final int OUT_OF_RANGE = 2;
        private static final int BEYOND_LIMIT = 3;
        private static final int MOST_NUMBERS = 4;

        private final char[] signs = new char[SIGNS];
        private final int[] numbers = new int[MOST_NUMBERS];
        private final Layout trial = new Layout();
        private int length = 0;
        private int next = 0;
        private int start = 0;
        private int reason = FAULTLESS;
        private int cause = 0;
        private int settled = 0;

        int append(char sign) {
            if (length >= SIGNS) {
                return LIMIT_REACHED;
            }
            signs[length] = sign;
            length++;
            return length;
        }

        int empty() {
            int before = length;
            length = 0;
            return before;
        }

        /** What of the fault: 0 its position, 1 its reason, 2 its cause. */
        int faultPart(int what) {
            if (what == 0) {
                return start;
            }
            return what == 1 ? reason : cause;
        }

        /** Tries the settings, one after the other, until one is not possible. */
        void read(Layout laid) {
            trial.copyFrom(laid);
            next = 0;
            reason = FAULTLESS;
            settled = 0;
            for (int round = 0; round < SIGNS && next < length && reason == FAULTLESS; round++) {
                readSetting();
            }
        }

        private void readSetting() {
            start = next;
            char kind = signs[start];
            if (!readForm(kind)) {
                reason = NOT_OF_THE_FORM;
                cause = next - start;
                return;
            }
            int bad = badNumber(kind);
            if (bad != NONE) {
                reason = OUT_OF_RANGE;
                cause = bad;
                return;
            }
            if (isBeyondLimit(kind)) {
                reason = BEYOND_LIMIT;
                return;
            }
            settle(kind);
            settled++;
        }

        /** Reads a setting; where it breaks off, that sign is the next one. */
        private boolean readForm(char kind) {
            int wanted = numbersOf(kind);
            if (wanted == 0) {
                return false;
            }
            next++;
            for (int number = 0; number < wanted; number++) {
                if (!readNumber(number) || !readSign(number == wanted - 1 ? ';' : ',')) {
                    return false;
                }
            }
            return true;
        }

        private static int numbersOf(char kind) {
            switch (kind) {
                case 'h':
                case 'u':
                    return 2;
                case 'o':
                    return 3;
                case 'p':
                    return MOST_NUMBERS;
                default:
                    return 0;
            }
        }

        private boolean readNumber(int number) {
            if (!isDigitNext()) {
                return false;
            }
            numbers[number] = signs[next] - '0';
            next++;
            if (isDigitNext()) {
                numbers[number] = numbers[number] * 10 + signs[next] - '0';
                next++;
            }
            return true;
        }

        private boolean isDigitNext() {
            return next < length && within(signs[next], '0', '9');
        }

        private boolean readSign(char sign) {
            if (next >= length || signs[next] != sign) {
                return false;
            }
            next++;
            return true;
        }

        private int badNumber(char kind) {
            switch (kind) {
                case 'h':
                    return trial.badOfPlace(numbers[0], numbers[1]);
                case 'p':
                    return trial.badOfPipe(numbers[0], numbers[1], numbers[2], numbers[3]);
                case 'o':
                    return trial.badOfOpening(numbers[0], numbers[1], numbers[2]);
                default:
                    return trial.badOfUnits(numbers[0], numbers[1]);
            }
        }

        private boolean isBeyondLimit(char kind) {
            return kind == 'h' && trial.placesAreFull() || kind == 'p' && trial.pipesAreFull();
        }

        private void settle(char kind) {
            switch (kind) {
                case 'h':
                    trial.addPlace(numbers[0], numbers[1]);
                    break;
                case 'p':
                    trial.addPipe(numbers[0], numbers[1], numbers[2], numbers[3]);
                    break;
                case 'o':
                    trial.setOpening(numbers[0], numbers[1], numbers[2]);
                    break;
                default:
                    trial.unitsAt[numbers[0]] = numbers[1];
                    break;
            }
        }
    }
}
