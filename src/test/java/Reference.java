import java.util.ArrayDeque;
import java.util.ArrayList;
import java.util.Arrays;
import java.util.List;
import java.util.regex.Matcher;
import java.util.regex.Pattern;

/**
 * The document once more, as plainly as it can be said and by other means than the program's, so
 * that both can be compared: a net of moments with a search in depth for single units, what is
 * wanting by a second end for one unit, texts by patterns.
 */
public final class Reference {
    private static final int INVALID = -1000001;
    private static final int NOT_POSSIBLE = -1000002;
    private static final int LIMIT = -1000003;
    private static final int NOT_FOUND = -1000004;
    private static final int ENDLESS = 100000;
    private static final int TICKS = 16;

    /** Places are {units, room}, pipes {from, to, time, bound, first, last}. */
    private static final class State {
        final List<int[]> places = new ArrayList<>();
        final List<int[]> pipes = new ArrayList<>();

        State copy() {
            State other = new State();
            places.forEach(place -> other.places.add(place.clone()));
            pipes.forEach(pipe -> other.pipes.add(pipe.clone()));
            return other;
        }

        boolean hasPlace(int place) {
            return place >= 0 && place < places.size();
        }

        boolean hasPipe(int pipe) {
            return pipe >= 0 && pipe < pipes.size();
        }
    }

    private State now = new State();
    private final ArrayDeque<State> history = new ArrayDeque<>();
    private String text = "";

    public Reference() {
        now.places.add(new int[] {0, 40});
    }

    private static boolean in(int number, int least, int most) {
        return least <= number && number <= most;
    }

    private void remember() {
        history.addLast(now.copy());
        if (history.size() > 4) {
            history.removeFirst();
        }
    }

    public int place(int units, int room) {
        if (!in(units, 0, 20) || !in(room, 0, 40)) {
            return INVALID;
        }
        if (now.places.size() == 6) {
            return LIMIT;
        }
        remember();
        now.places.add(new int[] {units, room});
        return now.places.size() - 1;
    }

    public int pipe(int from, int to, int time, int bound) {
        if (!now.hasPlace(from) || !now.hasPlace(to) || from == to || !in(time, 1, 4) || !in(bound, 1, 9)) {
            return INVALID;
        }
        if (now.pipes.size() == 10) {
            return LIMIT;
        }
        remember();
        now.pipes.add(new int[] {from, to, time, bound, 0, 15});
        return now.pipes.size() - 1;
    }

    public int dropPipe(int pipe) {
        if (!now.hasPipe(pipe)) {
            return INVALID;
        }
        remember();
        now.pipes.remove(pipe);
        return now.pipes.size();
    }

    public int open(int pipe, int first, int last) {
        if (!now.hasPipe(pipe) || !in(first, 0, 15) || !in(last, 0, 15)) {
            return INVALID;
        }
        remember();
        now.pipes.get(pipe)[4] = first;
        now.pipes.get(pipe)[5] = last;
        int ticks = 0;
        for (int tick = first; tick <= last; tick++) {
            ticks++;
        }
        return ticks;
    }

    public int widen(int pipe, int bound) {
        return !now.hasPipe(pipe) || !in(bound, 1, 9) ? INVALID : exchange(true, pipe, 3, bound);
    }

    public int units(int place, int units) {
        return !now.hasPlace(place) || !in(units, 0, 20) ? INVALID : exchange(false, place, 0, units);
    }

    public int room(int place, int room) {
        return !now.hasPlace(place) || !in(room, 0, 40) ? INVALID : exchange(false, place, 1, room);
    }

    private int exchange(boolean ofPipe, int number, int part, int value) {
        remember();
        int[] row = ofPipe ? now.pipes.get(number) : now.places.get(number);
        int before = row[part];
        row[part] = value;
        return before;
    }

    public int pipeOf(int pipe, int what) {
        return now.hasPipe(pipe) && in(what, 0, 5) ? now.pipes.get(pipe)[what] : INVALID;
    }

    public int placeOf(int place, int what) {
        if (!now.hasPlace(place) || !in(what, 0, 4)) {
            return INVALID;
        }
        if (what < 2) {
            return now.places.get(place)[what];
        }
        if (what == 4) {
            return leastTickAlone(place);
        }
        int set = 0;
        for (int pipe = 0; pipe < now.pipes.size(); pipe++) {
            if (now.pipes.get(pipe)[what - 2] == place) {
                set += 1 << pipe;
            }
        }
        return set;
    }

    private int leastTickAlone(int start) {
        boolean[][] there = new boolean[now.places.size()][TICKS + 4];
        there[start][0] = true;
        for (int tick = 0; tick < TICKS; tick++) {
            if (there[0][tick]) {
                return tick;
            }
            for (int place = 1; place < now.places.size(); place++) {
                if (there[place][tick] && now.places.get(place)[1] > 0) {
                    there[place][tick + 1] = true;
                }
            }
            for (int[] pipe : now.pipes) {
                if (there[pipe[0]][tick] && in(tick, pipe[4], pipe[5])) {
                    there[pipe[1]][tick + pipe[2]] = true;
                }
            }
        }
        return NOT_FOUND;
    }

    /** The moments up to a tick with the ways between them, as a table of what can still go. */
    private static final class Net {
        final int[][] left;
        final int moments;
        final int start;
        final int end;
        private final boolean[] seen;

        Net(State state, int tick) {
            moments = state.places.size() * TICKS;
            start = moments;
            end = moments + 1;
            left = new int[moments + 2][moments + 2];
            seen = new boolean[moments + 2];
            for (int place = 0; place < state.places.size(); place++) {
                left[start][place * TICKS] = state.places.get(place)[0];
                int room = place == 0 ? ENDLESS : state.places.get(place)[1];
                for (int at = 0; at < tick; at++) {
                    left[place * TICKS + at][place * TICKS + at + 1] = room;
                }
            }
            for (int[] pipe : state.pipes) {
                for (int at = pipe[4]; at <= pipe[5] && at + pipe[2] <= tick; at++) {
                    if (pipe[0] != 0) {
                        left[pipe[0] * TICKS + at][pipe[1] * TICKS + at + pipe[2]] += pipe[3];
                    }
                }
            }
        }

        int most() {
            int most = 0;
            while (true) {
                Arrays.fill(seen, false);
                int sent = send(start, ENDLESS);
                if (sent == 0) {
                    return most;
                }
                most += sent;
            }
        }

        private int send(int from, int amount) {
            if (from == end) {
                return amount;
            }
            seen[from] = true;
            for (int to = left.length - 1; to >= 0; to--) {
                if (left[from][to] > 0 && !seen[to]) {
                    int sent = send(to, Math.min(amount, left[from][to]));
                    if (sent > 0) {
                        left[from][to] -= sent;
                        left[to][from] += sent;
                        return sent;
                    }
                }
            }
            return 0;
        }
    }

    private static int most(State state, int tick) {
        Net net = new Net(state, tick);
        net.left[tick][net.end] = ENDLESS;
        return net.most();
    }

    /** By its definition: there is a plan with the most at the exit, and one unit more gone here. */
    private static boolean isWanting(State state, int tick, int place, int at, int most) {
        Net net = new Net(state, tick);
        net.left[tick][net.end] += most;
        net.left[place * TICKS + at][net.end] += 1;
        return net.most() == most + 1;
    }

    public int come(int tick) {
        return in(tick, 0, 15) ? most(now, tick) : INVALID;
    }

    public int earliest(int many) {
        if (!in(many, -1, 120)) {
            return INVALID;
        }
        int wanted = many == -1 ? count(2) : many;
        for (int tick = 0; tick < TICKS; tick++) {
            if (most(now, tick) >= wanted) {
                return tick;
            }
        }
        return NOT_FOUND;
    }

    public int repeated(int place, int tick) {
        if (!now.hasPlace(place) || place == 0 || !in(tick, 0, 15)) {
            return INVALID;
        }
        State state = now.copy();
        for (int[] other : state.places) {
            Arrays.fill(other, 0);
        }
        Arrays.fill(state.places.get(place), ENDLESS);
        for (int[] pipe : state.pipes) {
            pipe[4] = 0;
            pipe[5] = 15;
        }
        return most(state, tick);
    }

    public int narrow(int tick) {
        if (!in(tick, 0, 15)) {
            return INVALID;
        }
        int most = most(now, tick);
        boolean[][] wanting = new boolean[now.places.size()][tick + 1];
        for (int place = 0; place < now.places.size(); place++) {
            for (int at = 0; at <= tick; at++) {
                wanting[place][at] = isWanting(now, tick, place, at, most);
            }
        }
        int set = 0;
        for (int number = 0; number < now.pipes.size(); number++) {
            int[] pipe = now.pipes.get(number);
            for (int at = pipe[4]; at <= pipe[5] && at + pipe[2] <= tick; at++) {
                if (wanting[pipe[0]][at] && !wanting[pipe[1]][at + pipe[2]]) {
                    set |= 1 << number;
                }
            }
        }
        return set;
    }

    public int wanting(int tick, int place, int at) {
        if (!in(tick, 0, 15) || !now.hasPlace(place) || !in(at, 0, tick)) {
            return INVALID;
        }
        return isWanting(now, tick, place, at, most(now, tick)) ? 1 : 0;
    }

    public int dearest(int tick, int what) {
        if (!in(tick, 0, 15) || !in(what, 0, 1)) {
            return INVALID;
        }
        int best = NOT_FOUND;
        int fewest = NOT_FOUND;
        for (int pipe = 0; pipe < now.pipes.size(); pipe++) {
            State state = now.copy();
            state.pipes.remove(pipe);
            int most = most(state, tick);
            if (best == NOT_FOUND || most < fewest) {
                best = pipe;
                fewest = most;
            }
        }
        return what == 0 ? best : fewest;
    }

    public int helpful(int tick, int what) {
        if (!in(tick, 0, 15) || !in(what, 0, 1)) {
            return INVALID;
        }
        int best = NOT_FOUND;
        int gain = 0;
        for (int pipe = 0; pipe < now.pipes.size(); pipe++) {
            State state = now.copy();
            state.pipes.get(pipe)[3]++;
            int more = most(state, tick) - most(now, tick);
            if (more > gain) {
                best = pipe;
                gain = more;
            }
        }
        return best == NOT_FOUND || what == 0 ? best : gain;
    }

    public int withOneMore(int tick, int place) {
        if (!in(tick, 0, 15) || !now.hasPlace(place)) {
            return INVALID;
        }
        State state = now.copy();
        state.places.get(place)[0]++;
        return most(state, tick);
    }

    public int count(int what) {
        switch (what) {
            case 0: return now.places.size();
            case 1: return now.pipes.size();
            case 2: return now.places.stream().mapToInt(place -> place[0]).sum();
            case 3: return now.pipes.stream().mapToInt(pipe -> pipe[3]).sum();
            case 4: return history.size();
            case 5: return text.length();
            default: return INVALID;
        }
    }

    public int undo() {
        if (history.isEmpty()) {
            return NOT_POSSIBLE;
        }
        now = history.removeLast();
        return history.size();
    }

    public int type(int character) {
        if (!in(character, 32, 126)) {
            return INVALID;
        }
        if (text.length() == 60) {
            return LIMIT;
        }
        text += (char) character;
        return text.length();
    }

    public int clearText() {
        int length = text.length();
        text = "";
        return length;
    }

    private static final String N = "(\\d\\d?)";
    private static final Pattern SETTING = Pattern.compile(
        "h" + N + "," + N + ";|p" + N + "," + N + "," + N + "," + N + ";|o" + N + "," + N + "," + N + ";|u" + N
            + "," + N + ";");

    /** What became of the text: the fault's position, reason and cause (0, 0, 0 without), and how many settings. */
    private int[] tryText(Reference trial) {
        int done = 0;
        int start = 0;
        while (start < text.length()) {
            String rest = text.substring(start);
            int whole = wholeLength(rest);
            if (whole < 0) {
                return new int[] {start, 1, -1 - whole, done};
            }
            String setting = rest.substring(0, whole);
            int cause = trial.wrongNumber(setting);
            if (cause >= 0) {
                return new int[] {start, 2, cause, done};
            }
            if (trial.set(setting) == LIMIT) {
                return new int[] {start, 3, NOT_FOUND, done};
            }
            done++;
            start += whole;
        }
        return new int[] {NOT_FOUND, 0, NOT_FOUND, done};
    }

    /** The length of the setting ahead, or -1 - the place where it breaks off. */
    private static int wholeLength(String rest) {
        for (int length = 1; length <= rest.length(); length++) {
            Matcher matcher = SETTING.matcher(rest.substring(0, length));
            if (matcher.matches()) {
                return length;
            }
            if (!matcher.hitEnd()) {
                return -1 - (length - 1);
            }
        }
        return -1 - rest.length();
    }

    private static int[] numbersOf(String setting) {
        return Arrays.stream(setting.substring(1, setting.length() - 1).split(",")).mapToInt(Integer::parseInt).toArray();
    }

    private int wrongNumber(String setting) {
        int[] n = numbersOf(setting);
        boolean[] right;
        switch (setting.charAt(0)) {
            case 'h':
                right = new boolean[] {in(n[0], 0, 20), in(n[1], 0, 40)};
                break;
            case 'p':
                right = new boolean[] {
                    now.hasPlace(n[0]), now.hasPlace(n[1]) && n[0] != n[1], in(n[2], 1, 4), in(n[3], 1, 9)};
                break;
            case 'o':
                right = new boolean[] {now.hasPipe(n[0]), in(n[1], 0, 15), in(n[2], 0, 15)};
                break;
            default:
                right = new boolean[] {now.hasPlace(n[0]), in(n[1], 0, 20)};
                break;
        }
        for (int number = 0; number < right.length; number++) {
            if (!right[number]) {
                return number;
            }
        }
        return -1;
    }

    private int set(String setting) {
        int[] n = numbersOf(setting);
        switch (setting.charAt(0)) {
            case 'h': return place(n[0], n[1]);
            case 'p': return pipe(n[0], n[1], n[2], n[3]);
            case 'o': return open(n[0], n[1], n[2]);
            default: return units(n[0], n[1]);
        }
    }

    private Reference trial() {
        Reference trial = new Reference();
        trial.now = now.copy();
        return trial;
    }

    public int fault(int what) {
        if (!in(what, 0, 2)) {
            return INVALID;
        }
        int[] fault = tryText(trial());
        return fault[1] == 0 ? NOT_FOUND : fault[what];
    }

    public int play() {
        Reference trial = trial();
        int[] fault = tryText(trial);
        if (fault[1] != 0) {
            return NOT_POSSIBLE;
        }
        remember();
        now = trial.now;
        return fault[3];
    }
}
