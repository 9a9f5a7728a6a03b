import java.util.Random;

/**
 * Tells for small nets what can come by trying every plan that the document allows, tick by tick,
 * and compares it with the program; the dice are always the same.
 */
public final class PlanTest {
    private static final int NETS = 300;
    private static final int LAST_TICK = 4;
    private static final int MANY = 50;
    private static final int NO_PLAN = -1000;

    /** A net, and the place and tick at which one unit more is to go (or no place). */
    private final int[] units;
    private final int[] room;
    private final int[][] pipes;
    private int lossPlace = -1;
    private int lossTick = -1;
    private int end = 0;

    private PlanTest(int[] units, int[] room, int[][] pipes) {
        this.units = units;
        this.room = room;
        this.pipes = pipes;
    }

    public static void main(String[] args) {
        Check check = new Check();
        for (int run = 0; run < NETS && check.isClean(); run++) {
            compare(check, "net " + run + ": ", some(new Random(run)));
        }
        check.end();
    }

    private static PlanTest some(Random dice) {
        int places = 3 + dice.nextInt(2);
        int[] units = new int[places];
        int[] room = new int[places];
        for (int place = 0; place < places; place++) {
            units[place] = dice.nextInt(place == 0 ? 2 : 4);
            room[place] = place == 0 ? MANY : dice.nextInt(3);
        }
        int[][] pipes = new int[3 + dice.nextInt(2)][];
        for (int pipe = 0; pipe < pipes.length; pipe++) {
            int from = dice.nextInt(8) == 0 ? 0 : 1 + dice.nextInt(places - 1);
            int to = (from + 1 + dice.nextInt(places - 1)) % places;
            int first = dice.nextInt(3) == 0 ? 1 + dice.nextInt(2) : 0;
            int last = dice.nextInt(3) == 0 ? dice.nextInt(3) : 15;
            pipes[pipe] = new int[] {from, to, 1 + dice.nextInt(2), 1 + dice.nextInt(2), first, last};
        }
        return new PlanTest(units, room, pipes);
    }

    private static void compare(Check check, String name, PlanTest net) {
        PipeMoments x = net.laid();
        for (int tick = 0; tick <= LAST_TICK; tick++) {
            int most = net.mostBy(tick, -1, -1);
            check.due(name + "come(" + tick + ")", x.come(tick), most);
            for (int place = 0; place < net.units.length; place++) {
                check.due(name + "repeated(" + place + ", " + tick + ")", x.repeated(place, tick),
                    place == 0 ? PipeMoments.INVALID_ARGUMENT : net.endlessFrom(place).mostBy(tick, -1, -1));
            }
        }
        int tick = 2 + Math.floorMod(net.units[1], 2);
        int most = net.mostBy(tick, -1, -1);
        boolean[][] wanting = new boolean[net.units.length][tick + 1];
        for (int place = 0; place < net.units.length; place++) {
            for (int at = 0; at <= tick; at++) {
                wanting[place][at] = net.mostBy(tick, place, at) == most;
                check.due(name + "wanting(" + tick + ", " + place + ", " + at + ")", x.wanting(tick, place, at),
                    wanting[place][at] ? 1 : 0);
            }
        }
        check.due(name + "narrow(" + tick + ")", x.narrow(tick), net.narrowBy(tick, wanting));
        compareLeastTicks(check, name, x, net);
        compareWhatWouldBe(check, name, x, net, tick);
    }

    private static void compareLeastTicks(Check check, String name, PipeMoments x, PlanTest net) {
        int all = 0;
        for (int place = 0; place < net.units.length; place++) {
            PlanTest alone = new PlanTest(new int[net.units.length], net.room, net.pipes);
            alone.units[place] = 1;
            check.due(name + "placeOf(" + place + ", 4)", soon(x.placeOf(place, 4)), alone.leastTickFor(1));
            all += net.units[place];
        }
        for (int many = 0; many <= all + 1; many++) {
            check.due(name + "earliest(" + many + ")", soon(x.earliest(many)), net.leastTickFor(many));
        }
        check.due(name + "earliest(-1)", soon(x.earliest(-1)), net.leastTickFor(all));
    }

    /** Ticks that the plans here do not reach are like none. */
    private static int soon(int tick) {
        return tick > LAST_TICK ? PipeMoments.NOT_FOUND : tick;
    }

    private static void compareWhatWouldBe(Check check, String name, PipeMoments x, PlanTest net, int tick) {
        int dearest = PipeMoments.NOT_FOUND;
        int fewest = PipeMoments.NOT_FOUND;
        int helpful = PipeMoments.NOT_FOUND;
        int greatest = PipeMoments.NOT_FOUND;
        int most = net.mostBy(tick, -1, -1);
        for (int pipe = 0; pipe < net.pipes.length; pipe++) {
            int without = net.withBound(pipe, 0).mostBy(tick, -1, -1);
            int more = net.withBound(pipe, net.pipes[pipe][3] + 1).mostBy(tick, -1, -1) - most;
            if (pipe == 0 || without < fewest) {
                dearest = pipe;
                fewest = without;
            }
            if (more > Math.max(0, greatest)) {
                helpful = pipe;
                greatest = more;
            }
        }
        check.due(name + "dearest(" + tick + ", 0)", x.dearest(tick, 0), dearest);
        check.due(name + "dearest(" + tick + ", 1)", x.dearest(tick, 1), fewest);
        check.due(name + "helpful(" + tick + ", 0)", x.helpful(tick, 0), helpful);
        check.due(name + "helpful(" + tick + ", 1)", x.helpful(tick, 1), greatest);
        for (int place = 0; place < net.units.length; place++) {
            PlanTest other = new PlanTest(net.units.clone(), net.room, net.pipes);
            other.units[place]++;
            check.due(name + "withOneMore(" + tick + ", " + place + ")", x.withOneMore(tick, place),
                other.mostBy(tick, -1, -1));
        }
    }

    private PipeMoments laid() {
        PipeMoments x = new PipeMoments();
        x.units(0, units[0]);
        for (int place = 1; place < units.length; place++) {
            x.place(units[place], room[place]);
        }
        for (int pipe = 0; pipe < pipes.length; pipe++) {
            x.pipe(pipes[pipe][0], pipes[pipe][1], pipes[pipe][2], pipes[pipe][3]);
            x.open(pipe, pipes[pipe][4], pipes[pipe][5]);
        }
        return x;
    }

    private PlanTest endlessFrom(int place) {
        PlanTest net = new PlanTest(new int[units.length], new int[units.length], new int[pipes.length][]);
        net.room[0] = MANY;
        net.room[place] = MANY;
        net.units[place] = MANY;
        for (int pipe = 0; pipe < pipes.length; pipe++) {
            net.pipes[pipe] = pipes[pipe].clone();
            net.pipes[pipe][4] = 0;
            net.pipes[pipe][5] = 15;
        }
        return net;
    }

    private PlanTest withBound(int pipe, int bound) {
        PlanTest net = new PlanTest(units, room, pipes.clone());
        net.pipes[pipe] = pipes[pipe].clone();
        net.pipes[pipe][3] = bound;
        return net;
    }

    private int leastTickFor(int many) {
        for (int tick = 0; tick <= LAST_TICK; tick++) {
            if (mostBy(tick, -1, -1) >= many) {
                return tick;
            }
        }
        return PipeMoments.NOT_FOUND;
    }

    private int narrowBy(int tick, boolean[][] wanting) {
        int set = 0;
        for (int number = 0; number < pipes.length; number++) {
            int[] pipe = pipes[number];
            for (int at = 0; at + pipe[2] <= tick; at++) {
                boolean isOpen = at >= pipe[4] && at <= pipe[5];
                if (isOpen && wanting[pipe[0]][at] && !wanting[pipe[1]][at + pipe[2]]) {
                    set |= 1 << number;
                }
            }
        }
        return set;
    }

    private int mostBy(int tick, int place, int at) {
        end = tick;
        lossPlace = place;
        lossTick = at;
        int[][] there = new int[units.length][LAST_TICK + 5];
        return setOut(0, there);
    }

    /** Leaves out none, some or all units of each place. */
    private int setOut(int place, int[][] there) {
        if (place == units.length) {
            return tickOn(0, there);
        }
        int best = NO_PLAN;
        // of units without end it does not matter how many wait where they are
        for (int out = units[place] == MANY ? MANY : 0; out <= units[place]; out++) {
            there[place][0] = out;
            best = Math.max(best, setOut(place + 1, there));
        }
        there[place][0] = 0;
        return best;
    }

    private int tickOn(int tick, int[][] there) {
        boolean loses = lossTick == tick;
        if (loses && there[lossPlace][tick] == 0) {
            return NO_PLAN;
        }
        if (loses) {
            there[lossPlace][tick]--;
        }
        int best = tick == end ? there[0][end] : enter(0, tick, there);
        if (loses) {
            there[lossPlace][tick]++;
        }
        return best;
    }

    private int enter(int number, int tick, int[][] there) {
        if (number == pipes.length) {
            return waitOn(tick, there);
        }
        int[] pipe = pipes[number];
        boolean carries = pipe[0] != 0 && tick >= pipe[4] && tick <= pipe[5];
        int most = carries ? Math.min(pipe[3], there[pipe[0]][tick]) : 0;
        int best = NO_PLAN;
        for (int entering = 0; entering <= most; entering++) {
            there[pipe[0]][tick] -= entering;
            there[pipe[1]][tick + pipe[2]] += entering;
            best = Math.max(best, enter(number + 1, tick, there));
            there[pipe[0]][tick] += entering;
            there[pipe[1]][tick + pipe[2]] -= entering;
        }
        return best;
    }

    private int waitOn(int tick, int[][] there) {
        for (int place = 0; place < units.length; place++) {
            if (there[place][tick] > room[place]) {
                return NO_PLAN;
            }
        }
        int[][] next = new int[units.length][];
        for (int place = 0; place < units.length; place++) {
            next[place] = there[place].clone();
            next[place][tick + 1] += there[place][tick];
        }
        return tickOn(tick + 1, next);
    }
}
