import java.util.function.IntUnaryOperator;
import java.util.function.Supplier;

/**
 * The range of every argument of every call: all of its numbers hold and answer as due, from the least
 * to the greatest, and those beside them, far from them, or equal to one of them when cut to fewer bits
 * are INVALID_ARGUMENT. Where the call is a change, what is asked is what it has set.
 */
public final class RangesTest {
    private static final int INVALID = Nets.INVALID;
    private static final int NOT_FOUND = Nets.NOT_FOUND;
    private static final int LAST_TICK = 15;

    private static final Check check = new Check();

    /** A call of which one argument is the number. */
    private interface Call {
        int of(PipeMoments x, int number);
    }

    public static void main(String[] args) {
        place();
        pipe();
        pipeOnLastNumbers();
        dropPipe();
        open();
        widen();
        units();
        room();
        pipeOf();
        placeOf();
        come();
        earliest();
        repeated();
        narrow();
        wanting();
        dearest();
        helpful();
        withOneMore();
        count();
        type();
        fault();
        check.end();
    }

    /** On the net of two places, each with a pipe: 2 -> 1 -> exit. */
    private static void range(String what, int least, int greatest, Call call, IntUnaryOperator due) {
        range(Nets::longLine, what, least, greatest, call, due);
    }

    private static void range(
            Supplier<PipeMoments> net, String what, int least, int greatest, Call call, IntUnaryOperator due) {
        check.under(what + ": " + least + " to " + greatest);
        for (int number = least; number <= greatest; number++) {
            check.due(Integer.toString(number), call.of(net.get(), number), due.applyAsInt(number));
        }
        outside(net, least - 1, call);
        outside(net, greatest + 1, call);
        outside(net, Integer.MIN_VALUE, call);
        outside(net, Integer.MAX_VALUE, call);
        for (int bits = 8; bits < 32; bits += bits == 24 ? 7 : 8) {
            outside(net, least + (1 << bits), call);
            outside(net, greatest - (1 << bits), call);
        }
    }

    private static void outside(Supplier<PipeMoments> net, int number, Call call) {
        check.due(Integer.toString(number), call.of(net.get(), number), INVALID);
    }

    /** What was set, where the change went as it should; its own answer where not. */
    private static int set(int answer, int due, int isSet) {
        return answer == due ? isSet : answer;
    }

    /** The number there, or none that any call answers. */
    private static int of(int at, int... numbers) {
        return at >= 0 && at < numbers.length ? numbers[at] : Integer.MIN_VALUE;
    }

    private static void place() {
        range("place, units", 0, 20, (x, n) -> set(x.place(n, 5), 3, x.placeOf(3, 0)), n -> n);
        range("place, room", 0, 40, (x, n) -> set(x.place(5, n), 3, x.placeOf(3, 1)), n -> n);
    }

    private static void pipe() {
        range("pipe, from", 0, 2, (x, n) -> set(x.pipe(n, n == 0 ? 1 : 0, 1, 1), 2, x.pipeOf(2, 0)), n -> n);
        range("pipe, to", 0, 2, (x, n) -> set(x.pipe(n == 2 ? 1 : 2, n, 1, 1), 2, x.pipeOf(2, 1)), n -> n);
        range("pipe, time", 1, 4, (x, n) -> set(x.pipe(2, 0, n, 1), 2, x.pipeOf(2, 2)), n -> n);
        range("pipe, bound", 1, 9, (x, n) -> set(x.pipe(2, 0, 1, n), 2, x.pipeOf(2, 3)), n -> n);
    }

    /** As many places as there can be: the sixth has the number 5, and no pipe goes to a seventh. */
    private static void pipeOnLastNumbers() {
        Supplier<PipeMoments> net = () -> {
            PipeMoments x = Nets.full();
            x.dropPipe(9);
            return x;
        };
        range(net, "pipe of six places, from", 0, 5,
            (x, n) -> set(x.pipe(n, n == 0 ? 1 : 0, 1, 1), 9, x.pipeOf(9, 0)), n -> n);
        range(net, "pipe of six places, to", 0, 5,
            (x, n) -> set(x.pipe(n == 5 ? 1 : 5, n, 1, 1), 9, x.pipeOf(9, 1)), n -> n);
    }

    private static void dropPipe() {
        range("dropPipe, pipe", 0, 1, (x, n) -> x.dropPipe(n), n -> 1);
        range(Nets::full, "dropPipe of ten pipes, pipe", 0, 9, (x, n) -> x.dropPipe(n), n -> 9);
    }

    private static void open() {
        range("open, pipe", 0, 1, (x, n) -> set(x.open(n, 3, 4), 2, x.pipeOf(n, 4)), n -> 3);
        range(Nets::full, "open of ten pipes, pipe", 0, 9, (x, n) -> set(x.open(n, 3, 4), 2, x.pipeOf(n, 5)), n -> 4);
        range("open, first", 0, LAST_TICK, (x, n) -> set(x.open(0, n, 15), 16 - n, x.pipeOf(0, 4)), n -> n);
        range("open, last", 0, LAST_TICK, (x, n) -> set(x.open(0, 0, n), n + 1, x.pipeOf(0, 5)), n -> n);
        range("open, last below first", 0, LAST_TICK,
            (x, n) -> set(x.open(0, 15, n), n == 15 ? 1 : 0, x.pipeOf(0, 5)), n -> n);
    }

    private static void widen() {
        range("widen, pipe", 0, 1, (x, n) -> set(x.widen(n, 9), 3 + n, x.pipeOf(n, 3)), n -> 9);
        range(Nets::full, "widen of ten pipes, pipe", 0, 9, (x, n) -> x.widen(n, 9), n -> 1 + n % 5);
        range("widen, bound", 1, 9, (x, n) -> set(x.widen(0, n), 3, x.pipeOf(0, 3)), n -> n);
    }

    private static void units() {
        range("units, place", 0, 2, (x, n) -> set(x.units(n, 7), of(n, 0, 10, 5), x.placeOf(n, 0)), n -> 7);
        range(Nets::full, "units of six places, place", 0, 5, (x, n) -> x.units(n, 7), n -> n);
        range("units, units", 0, 20, (x, n) -> set(x.units(1, n), 10, x.placeOf(1, 0)), n -> n);
        range("units of the exit, units", 0, 20, (x, n) -> set(x.units(0, n), 0, x.placeOf(0, 0)), n -> n);
    }

    private static void room() {
        range("room, place", 0, 2, (x, n) -> set(x.room(n, 7), of(n, 40, 40, 2), x.placeOf(n, 1)), n -> 7);
        range(Nets::full, "room of six places, place", 0, 5,
            (x, n) -> x.room(n, 7), n -> of(n, 40, 10, 20, 30, 0, 10));
        range("room, room", 0, 40, (x, n) -> set(x.room(2, n), 2, x.placeOf(2, 1)), n -> n);
        range("room of the exit, room", 0, 40, (x, n) -> set(x.room(0, n), 40, x.placeOf(0, 1)), n -> n);
    }

    private static void pipeOf() {
        range("pipeOf, pipe", 0, 1, (x, n) -> x.pipeOf(n, 3), n -> 3 + n);
        range(Nets::full, "pipeOf of ten pipes, pipe", 0, 9, (x, n) -> x.pipeOf(n, 3), n -> 1 + n % 5);
        range("pipeOf, what", 0, 5, (x, n) -> x.pipeOf(1, n), n -> of(n, 2, 1, 1, 4, 0, 15));
    }

    private static void placeOf() {
        range("placeOf, place", 0, 2, (x, n) -> x.placeOf(n, 0), n -> of(n, 0, 10, 5));
        range(Nets::full, "placeOf of six places, place", 0, 5, (x, n) -> x.placeOf(n, 0), n -> n);
        range("placeOf, what", 0, 4, (x, n) -> x.placeOf(1, n), n -> of(n, 10, 40, 1, 2, 2));
        for (int what = 0; what <= 4; what++) {
            int number = what;
            range("placeOf, place, of " + what, 1, 2, (x, n) -> n == 0 ? INVALID : x.placeOf(n, number),
                n -> n == 1 ? of(number, 10, 40, 1, 2, 2) : of(number, 5, 2, 2, 0, 3));
        }
    }

    private static int comeBy(int tick) {
        return Math.min(15, Math.max(0, 3 * (tick - 1)));
    }

    private static void come() {
        range("come, tick", 0, LAST_TICK, (x, n) -> x.come(n), RangesTest::comeBy);
    }

    private static void earliest() {
        range("earliest, many", -1, 120, (x, n) -> x.earliest(n), n -> {
            if (n == -1) {
                return 6;
            }
            return n > 15 ? NOT_FOUND : n == 0 ? 0 : 1 + (n + 2) / 3;
        });
    }

    private static void repeated() {
        range("repeated, place", 1, 2, (x, n) -> x.repeated(n, 5), n -> n == 1 ? 12 : 9);
        range(Nets::full, "repeated of six places, place", 1, 5, (x, n) -> Math.min(0, x.repeated(n, 15)), n -> 0);
        range("repeated, tick", 0, LAST_TICK, (x, n) -> x.repeated(1, n), n -> Math.max(0, 3 * (n - 1)));
    }

    private static void narrow() {
        range("narrow, tick", 0, LAST_TICK, (x, n) -> x.narrow(n), n -> n >= 2 && n <= 5 ? 1 : 0);
    }

    private static void wanting() {
        range("wanting, tick", 0, LAST_TICK, (x, n) -> x.wanting(n, 2, 0), n -> n <= 5 ? 1 : 0);
        range("wanting, place", 0, 2, (x, n) -> x.wanting(5, n, 0), n -> n == 0 ? 0 : 1);
        range(Nets::full, "wanting of six places, place", 0, 5, (x, n) -> x.wanting(0, n, 0), n -> n == 0 ? 0 : 1);
        for (int tick = 0; tick <= LAST_TICK; tick++) {
            int end = tick;
            range("wanting by " + tick + ", at", 0, tick, (x, n) -> x.wanting(end, 1, n),
                n -> end <= 5 ? 1 : 0);
        }
    }

    private static void dearest() {
        range("dearest, tick", 0, LAST_TICK, (x, n) -> x.dearest(n, 0), n -> 0);
        range("dearest, tick, how many", 0, LAST_TICK, (x, n) -> x.dearest(n, 1), n -> 0);
        range("dearest, what", 0, 1, (x, n) -> x.dearest(5, n), n -> 0);
    }

    private static void helpful() {
        range("helpful, tick", 0, LAST_TICK, (x, n) -> x.helpful(n, 0), n -> n >= 2 && n <= 5 ? 0 : NOT_FOUND);
        range("helpful, tick, how many", 0, LAST_TICK, (x, n) -> x.helpful(n, 1),
            n -> n >= 2 && n <= 5 ? of(n - 2, 1, 2, 3, 3) : NOT_FOUND);
        range("helpful, what", 0, 1, (x, n) -> x.helpful(4, n), n -> n == 0 ? 0 : 3);
    }

    private static void withOneMore() {
        range("withOneMore, tick", 0, LAST_TICK, (x, n) -> x.withOneMore(n, 2),
            n -> Math.min(16, Math.max(0, 3 * (n - 1))));
        range("withOneMore, place", 0, 2, (x, n) -> x.withOneMore(5, n), n -> n == 0 ? 13 : 12);
        range(Nets::full, "withOneMore of six places, place", 0, 5, (x, n) -> x.withOneMore(0, n), n -> n == 0 ? 1 : 0);
    }

    private static void count() {
        range("count, what", 0, 5, (x, n) -> x.count(n), n -> of(n, 3, 2, 15, 7, 4, 0));
    }

    private static void type() {
        range("type, character", 32, 126, (x, n) -> x.type(n), n -> 1);
        range("type, character, that stands there then", 32, 126, (x, n) -> {
            int answer = x.type(n);
            return answer == 1 ? x.fault(2) : answer;
        }, n -> "hpou".indexOf(n) >= 0 ? 1 : 0);
    }

    private static void fault() {
        range("fault, what, of none", 0, 2, (x, n) -> x.fault(n), n -> NOT_FOUND);
        range(() -> {
            PipeMoments x = Nets.longLine();
            Nets.write(x, "u0,0;u3,1;");
            return x;
        }, "fault, what", 0, 2, (x, n) -> x.fault(n), n -> of(n, 5, 2, 0));
    }

    private RangesTest() {
    }
}
