/** Each promise of the document by hand: ordinary inputs, the edges that it names, wrong inputs. */
public final class PromiseTest {
    private static final int INVALID = Nets.INVALID;
    private static final int NOT_POSSIBLE = Nets.NOT_POSSIBLE;
    private static final int LIMIT = Nets.LIMIT;
    private static final int NOT_FOUND = Nets.NOT_FOUND;
    private static final int[] FAR = Nets.FAR;

    private static final Check check = new Check();

    public static void main(String[] args) {
        constants();
        newObject();
        place();
        pipe();
        dropPipe();
        open();
        widen();
        units();
        room();
        pipeOf();
        placeOf();
        placeOfLeastTick();
        come();
        comeWithRooms();
        comeWithOpenings();
        comeAgainstTheFirstWay();
        earliest();
        repeated();
        narrow();
        wanting();
        wantingOfOwnUnits();
        dearest();
        helpful();
        withOneMore();
        count();
        undo();
        undoOfEachChange();
        type();
        clearText();
        faultOfTheForm();
        faultOfNumbers();
        faultOfLimits();
        faultAfterOthers();
        play();
        errorsChangeNothing();
        check.end();
    }

    private static void due(String call, int got, int want) {
        check.due(call, got, want);
    }

    private static void constants() {
        due("INVALID_ARGUMENT", PipeMoments.INVALID_ARGUMENT, -1000001);
        due("NOT_POSSIBLE", PipeMoments.NOT_POSSIBLE, -1000002);
        due("LIMIT_REACHED", PipeMoments.LIMIT_REACHED, -1000003);
        due("NOT_FOUND", PipeMoments.NOT_FOUND, -1000004);
    }

    // promise 1
    private static void newObject() {
        PipeMoments x = new PipeMoments();
        due("count(0)", x.count(0), 1);
        for (int what = 1; what <= 5; what++) {
            due("new: count " + what, x.count(what), 0);
        }
        due("placeOf(0, 0)", x.placeOf(0, 0), 0);
        due("placeOf(0, 1)", x.placeOf(0, 1), 40);
        due("placeOf(1, 0)", x.placeOf(1, 0), INVALID);
        due("pipeOf(0, 0)", x.pipeOf(0, 0), INVALID);
        due("undo()", x.undo(), NOT_POSSIBLE);
        due("come(15)", x.come(15), 0);
        due("fault(0)", x.fault(0), NOT_FOUND);
    }

    // promise 2
    private static void place() {
        PipeMoments x = new PipeMoments();
        for (int far : FAR) {
            due("place of units " + far, x.place(far, 0), INVALID);
            due("place of room " + far, x.place(0, far), INVALID);
        }
        due("place(21, 0)", x.place(21, 0), INVALID);
        due("place(0, 41)", x.place(0, 41), INVALID);
        due("place(0, 0)", x.place(0, 0), 1);
        due("place(20, 40)", x.place(20, 40), 2);
        due("placeOf(1, 0)", x.placeOf(1, 0), 0);
        due("placeOf(1, 1)", x.placeOf(1, 1), 0);
        due("placeOf(2, 0)", x.placeOf(2, 0), 20);
        due("placeOf(2, 1)", x.placeOf(2, 1), 40);
        due("place(3, 7)", x.place(3, 7), 3);
        due("place(4, 8)", x.place(4, 8), 4);
        due("place(5, 9)", x.place(5, 9), 5);
        due("the seventh place", x.place(0, 0), LIMIT);
        due("the seventh place, wrong too", x.place(21, 0), INVALID);
        due("the seventh place, of a wrong room", x.place(0, -1), INVALID);
        due("count(0)", x.count(0), 6);
        due("placeOf(5, 1)", x.placeOf(5, 1), 9);
    }

    // promise 3
    private static void pipe() {
        PipeMoments x = new PipeMoments();
        x.place(1, 1);
        for (int far : FAR) {
            due("pipe from " + far, x.pipe(far, 0, 1, 1), INVALID);
            due("pipe to " + far, x.pipe(1, far, 1, 1), INVALID);
            due("pipe of time " + far, x.pipe(1, 0, far, 1), INVALID);
            due("pipe of bound " + far, x.pipe(1, 0, 1, far), INVALID);
        }
        due("pipe(1, 2, 1, 1)", x.pipe(1, 2, 1, 1), INVALID);
        due("pipe(2, 1, 1, 1)", x.pipe(2, 1, 1, 1), INVALID);
        due("pipe(1, 1, 1, 1)", x.pipe(1, 1, 1, 1), INVALID);
        due("pipe(0, 0, 1, 1)", x.pipe(0, 0, 1, 1), INVALID);
        due("pipe(1, 0, 0, 1)", x.pipe(1, 0, 0, 1), INVALID);
        due("pipe(1, 0, 5, 1)", x.pipe(1, 0, 5, 1), INVALID);
        due("pipe(1, 0, 1, 0)", x.pipe(1, 0, 1, 0), INVALID);
        due("pipe(1, 0, 1, 10)", x.pipe(1, 0, 1, 10), INVALID);
        due("pipe(1, 0, 4, 9)", x.pipe(1, 0, 4, 9), 0);
        due("pipe(0, 1, 1, 1)", x.pipe(0, 1, 1, 1), 1);
        for (int pipe = 2; pipe < 10; pipe++) {
            due("pipe " + pipe, x.pipe(1, 0, 1, 1), pipe);
        }
        due("the eleventh pipe", x.pipe(1, 0, 1, 1), LIMIT);
        due("the eleventh pipe, wrong too", x.pipe(1, 1, 1, 1), INVALID);
        due("count(1)", x.count(1), 10);
        due("pipeOf(0, 4)", x.pipeOf(0, 4), 0);
        due("pipeOf(0, 5)", x.pipeOf(0, 5), 15);
    }

    // promise 4
    private static void dropPipe() {
        PipeMoments x = new PipeMoments();
        x.place(1, 1);
        due("dropPipe(0)", x.dropPipe(0), INVALID);
        for (int pipe = 0; pipe < 10; pipe++) {
            x.pipe(pipe % 2, 1 - pipe % 2, 1 + pipe % 4, 1 + pipe % 9);
        }
        x.open(4, 5, 6);
        for (int far : FAR) {
            due("dropPipe " + far, x.dropPipe(far), INVALID);
        }
        due("dropPipe(10)", x.dropPipe(10), INVALID);
        due("dropPipe(3)", x.dropPipe(3), 9);
        int[] parts = {0, 1, 1, 5, 5, 6};
        for (int what = 0; what < 6; what++) {
            due("the moved pipe's part " + what, x.pipeOf(3, what), parts[what]);
        }
        due("pipeOf(2, 3)", x.pipeOf(2, 3), 3);
        due("pipeOf(8, 3)", x.pipeOf(8, 3), 1);
        due("pipeOf(9, 3)", x.pipeOf(9, 3), INVALID);
        due("dropPipe(9)", x.dropPipe(9), INVALID);
        due("dropPipe(8)", x.dropPipe(8), 8);
        due("dropPipe(0)", x.dropPipe(0), 7);
        due("pipeOf(0, 3)", x.pipeOf(0, 3), 2);
        due("pipe(1, 0, 4, 7)", x.pipe(1, 0, 4, 7), 7);
        due("a new pipe is open at first", x.pipeOf(7, 5), 15);
    }

    // promise 5
    private static void open() {
        PipeMoments x = Nets.line();
        for (int far : FAR) {
            due("open of pipe " + far, x.open(far, 0, 0), INVALID);
            due("open from " + far, x.open(0, far, 0), INVALID);
            due("open until " + far, x.open(0, 0, far), INVALID);
        }
        due("open(1, 0, 0)", x.open(1, 0, 0), INVALID);
        due("open(0, 16, 0)", x.open(0, 16, 0), INVALID);
        due("open(0, 0, 16)", x.open(0, 0, 16), INVALID);
        due("open(0, 0, 15)", x.open(0, 0, 15), 16);
        due("open(0, 15, 0)", x.open(0, 15, 0), 0);
        due("open(0, 15, 15)", x.open(0, 15, 15), 1);
        due("open(0, 5, 4)", x.open(0, 5, 4), 0);
        due("open(0, 3, 5)", x.open(0, 3, 5), 3);
        due("pipeOf(0, 4)", x.pipeOf(0, 4), 3);
        due("pipeOf(0, 5)", x.pipeOf(0, 5), 5);
        due("come(4)", x.come(4), 0);
        due("come(5)", x.come(5), 3);
        due("come(15)", x.come(15), 9);
    }

    // promise 6
    private static void widen() {
        PipeMoments x = Nets.line();
        for (int far : FAR) {
            due("widen of pipe " + far, x.widen(far, 1), INVALID);
            due("widen to " + far, x.widen(0, far), INVALID);
        }
        due("widen(1, 1)", x.widen(1, 1), INVALID);
        due("widen(0, 0)", x.widen(0, 0), INVALID);
        due("widen(0, 10)", x.widen(0, 10), INVALID);
        due("widen(0, 9)", x.widen(0, 9), 3);
        due("come(2)", x.come(2), 9);
        due("widen(0, 1)", x.widen(0, 1), 9);
        due("come(2)", x.come(2), 1);
        due("widen(0, 1)", x.widen(0, 1), 1);
        due("pipeOf(0, 3)", x.pipeOf(0, 3), 1);
    }

    // promise 7
    private static void units() {
        PipeMoments x = Nets.line();
        for (int far : FAR) {
            due("units of place " + far, x.units(far, 1), INVALID);
            due("units " + far, x.units(1, far), INVALID);
        }
        due("units(2, 0)", x.units(2, 0), INVALID);
        due("units(1, 21)", x.units(1, 21), INVALID);
        due("units(1, 20)", x.units(1, 20), 10);
        due("units(1, 0)", x.units(1, 0), 20);
        due("units(1, 2)", x.units(1, 2), 0);
        due("units(0, 4)", x.units(0, 4), 0);
        due("units(0, 5)", x.units(0, 5), 4);
        due("come(0)", x.come(0), 5);
        due("come(15)", x.come(15), 7);
    }

    // promise 8
    private static void room() {
        PipeMoments x = Nets.line();
        for (int far : FAR) {
            due("room of place " + far, x.room(far, 1), INVALID);
            due("room " + far, x.room(1, far), INVALID);
        }
        due("room(2, 0)", x.room(2, 0), INVALID);
        due("room(1, 41)", x.room(1, 41), INVALID);
        due("room(0, 41)", x.room(0, 41), INVALID);
        due("room(1, 0)", x.room(1, 0), 40);
        due("come(15)", x.come(15), 3);
        due("room(1, 4)", x.room(1, 4), 0);
        due("come(15)", x.come(15), 7);
        due("room(0, 0)", x.room(0, 0), 40);
        due("the exit's room does not matter", x.come(15), 7);
        due("room(0, 40)", x.room(0, 40), 0);
        due("placeOf(1, 1)", x.placeOf(1, 1), 4);
    }

    // promise 9
    private static void pipeOf() {
        PipeMoments x = Nets.line();
        x.place(0, 0);
        x.pipe(2, 1, 4, 8);
        x.open(1, 6, 2);
        int[] parts = {2, 1, 4, 8, 6, 2};
        for (int what = 0; what < 6; what++) {
            due("pipeOf(1, " + what + ")", x.pipeOf(1, what), parts[what]);
        }
        due("pipeOf(0, 0)", x.pipeOf(0, 0), 1);
        due("pipeOf(0, 6)", x.pipeOf(0, 6), INVALID);
        due("pipeOf(2, 0)", x.pipeOf(2, 0), INVALID);
        for (int far : FAR) {
            due("pipeOf pipe " + far, x.pipeOf(far, 0), INVALID);
            due("pipeOf what " + far, x.pipeOf(0, far), INVALID);
        }
    }

    // promise 10
    private static void placeOf() {
        PipeMoments x = Nets.line();
        x.place(7, 6);
        x.pipe(2, 1, 1, 1);
        x.pipe(2, 0, 1, 1);
        x.pipe(0, 2, 1, 1);
        due("placeOf(2, 0)", x.placeOf(2, 0), 7);
        due("placeOf(2, 1)", x.placeOf(2, 1), 6);
        due("placeOf(2, 2)", x.placeOf(2, 2), 6);
        due("placeOf(2, 3)", x.placeOf(2, 3), 8);
        due("placeOf(0, 2)", x.placeOf(0, 2), 8);
        due("placeOf(0, 3)", x.placeOf(0, 3), 5);
        due("placeOf(1, 2)", x.placeOf(1, 2), 1);
        due("placeOf(1, 3)", x.placeOf(1, 3), 2);
        due("placeOf(1, 5)", x.placeOf(1, 5), INVALID);
        due("placeOf(3, 0)", x.placeOf(3, 0), INVALID);
        due("placeOf(3, 4)", x.placeOf(3, 4), INVALID);
        for (int far : FAR) {
            due("placeOf place " + far, x.placeOf(far, 0), INVALID);
            due("placeOf what " + far, x.placeOf(0, far), INVALID);
        }
    }

    private static void placeOfLeastTick() {
        PipeMoments x = Nets.chain(0, 0);
        x.units(0, 3);
        due("the exit itself", x.placeOf(0, 4), 0);
        due("without units of its own", x.placeOf(2, 4), 2);
        due("from between", x.placeOf(1, 4), 1);
        x.open(1, 3, 4);
        due("it can't wait between, but before", x.placeOf(2, 4), 4);
        due("no room to wait until it opens", x.placeOf(1, 4), NOT_FOUND);
        x.room(1, 1);
        due("room for one is enough", x.placeOf(1, 4), 4);
        x.room(2, 0);
        due("it waits between", x.placeOf(2, 4), 4);
        x.open(1, 14, 14);
        due("by the tick 15", x.placeOf(2, 4), 15);
        x.open(1, 15, 15);
        due("too late", x.placeOf(2, 4), NOT_FOUND);
        x.open(1, 5, 4);
        due("never open", x.placeOf(1, 4), NOT_FOUND);
        x.pipe(1, 2, 1, 1);
        x.pipe(2, 0, 4, 1);
        due("another way", x.placeOf(1, 4), 5);
    }

    // promise 11
    private static void come() {
        PipeMoments x = Nets.line();
        int[] dueBy = {0, 0, 3, 6, 9, 10, 10};
        for (int tick = 0; tick < dueBy.length; tick++) {
            due("come(" + tick + ")", x.come(tick), dueBy[tick]);
        }
        due("come(15)", x.come(15), 10);
        due("come(16)", x.come(16), INVALID);
        for (int far : FAR) {
            due("come " + far, x.come(far), INVALID);
        }
        x.units(0, 4);
        due("the exit's own units count", x.come(0), 4);
        due("come(3)", x.come(3), 10);
        x.pipe(0, 1, 1, 9);
        due("a pipe from the exit carries nothing", x.come(3), 10);
        x.pipe(1, 0, 4, 9);
        due("a slow pipe beside it, not yet there", x.come(3), 10);
        due("a slow pipe beside it", x.come(4), 14);
    }

    private static void comeWithRooms() {
        PipeMoments x = Nets.chain(10, 40);
        due("come(1)", x.come(1), 0);
        due("come(2)", x.come(2), 2);
        due("come(6)", x.come(6), 10);
        x.room(2, 0);
        due("all must go at once", x.come(15), 5);
        x.room(1, 1);
        due("two go on and one waits", x.come(15), 3);
        x.room(1, 0);
        due("two go on", x.come(15), 2);
        x.room(2, 1);
        due("one waits before, those between can't", x.come(15), 3);
        x.room(2, 40);
        due("they go two by two", x.come(5), 8);
        due("the room of the exit is endless", x.come(15), 10);
    }

    private static void comeWithOpenings() {
        PipeMoments x = Nets.chain(10, 3);
        x.open(1, 4, 5);
        due("three waited, and two come when two go", x.come(15), 4);
        due("come(5)", x.come(5), 2);
        x.open(1, 4, 15);
        due("come(7)", x.come(7), 6);
        x.open(0, 0, 1);
        due("three wait for the opening", x.come(15), 3);
        x.open(0, 0, 3);
        due("they come as it opens", x.come(15), 5);
        x.open(0, 15, 15);
        due("entered, but not there", x.come(15), 0);
    }

    /** The quickest way of the unit of 1 is the only one of that of 3. */
    private static void comeAgainstTheFirstWay() {
        PipeMoments x = new PipeMoments();
        x.place(1, 0);
        x.place(0, 0);
        x.place(1, 0);
        x.pipe(1, 2, 1, 1);
        x.pipe(2, 0, 1, 1);
        x.pipe(3, 2, 1, 1);
        x.pipe(1, 0, 4, 1);
        due("come(2)", x.come(2), 1);
        due("the unit of 1 gives way to that of 3", x.come(4), 2);
        due("earliest(2)", x.earliest(2), 4);
    }

    // promise 12
    private static void earliest() {
        PipeMoments x = Nets.line();
        due("earliest(-1)", x.earliest(-1), 5);
        due("earliest(0)", x.earliest(0), 0);
        due("earliest(1)", x.earliest(1), 2);
        due("earliest(3)", x.earliest(3), 2);
        due("earliest(4)", x.earliest(4), 3);
        due("earliest(9)", x.earliest(9), 4);
        due("earliest(10)", x.earliest(10), 5);
        due("earliest(11)", x.earliest(11), NOT_FOUND);
        due("earliest(120)", x.earliest(120), NOT_FOUND);
        due("earliest(121)", x.earliest(121), INVALID);
        due("earliest(-2)", x.earliest(-2), INVALID);
        due("earliest, far below", x.earliest(Integer.MIN_VALUE), INVALID);
        due("earliest, far above", x.earliest(Integer.MAX_VALUE), INVALID);
        x.units(0, 2);
        due("with the exit's units", x.earliest(-1), 5);
        due("of the exit's units", x.earliest(2), 0);
        due("of more than the exit's units", x.earliest(3), 2);
        x.open(0, 13, 15);
        due("by the tick 15", x.earliest(3), 15);
        due("after the tick 15", x.earliest(6), NOT_FOUND);
        due("not all", x.earliest(-1), NOT_FOUND);
        x.units(1, 0);
        due("all are there", x.earliest(-1), 0);
    }

    // promise 13
    private static void repeated() {
        PipeMoments x = Nets.chain(0, 40);
        x.units(0, 9);
        due("repeated(2, 1)", x.repeated(2, 1), 0);
        due("repeated(2, 2)", x.repeated(2, 2), 2);
        due("repeated(2, 15)", x.repeated(2, 15), 28);
        due("repeated(1, 0)", x.repeated(1, 0), 0);
        due("repeated(1, 15)", x.repeated(1, 15), 30);
        x.open(1, 3, 1);
        x.units(1, 20);
        due("all pipes are open, no other place has any", x.repeated(2, 4), 6);
        x.pipe(1, 0, 4, 9);
        due("on two ways, before the second is through", x.repeated(2, 4), 6);
        due("on two ways, three more each tick", x.repeated(2, 6), 10 + 6);
        x.room(2, 0);
        x.room(1, 0);
        due("its own room has no bound", x.repeated(2, 6), 10 + 6);
        due("repeated(0, 1)", x.repeated(0, 1), INVALID);
        due("repeated(3, 1)", x.repeated(3, 1), INVALID);
        due("repeated(1, 16)", x.repeated(1, 16), INVALID);
        for (int far : FAR) {
            due("repeated of place " + far, x.repeated(far, 1), INVALID);
            due("repeated by " + far, x.repeated(1, far), INVALID);
        }
        PipeMoments wide = new PipeMoments();
        wide.place(0, 0);
        for (int pipe = 0; pipe < 10; pipe++) {
            wide.pipe(1, 0, 1, 9);
        }
        due("the most of all", wide.repeated(1, 15), 1350);
    }

    // promise 14
    private static void narrow() {
        PipeMoments x = Nets.line();
        due("too early for any", x.narrow(1), 0);
        due("narrow(2)", x.narrow(2), 1);
        due("narrow(4)", x.narrow(4), 1);
        due("all have come", x.narrow(5), 0);
        x.pipe(1, 0, 4, 1);
        due("both", x.narrow(4), 0);
        x.units(1, 20);
        due("both, with more units", x.narrow(4), 3);
        due("only the quick one is in time", x.narrow(3), 1);
        x.open(0, 6, 5);
        due("one that is never open", x.narrow(4), 2);
        PipeMoments y = Nets.chain(10, 40);
        due("the last one alone", y.narrow(5), 2);
        y.room(1, 0);
        due("no room between: still the last one", y.narrow(5), 2);
        y.widen(1, 9);
        due("the first one now", y.narrow(2), 1);
        y.pipe(0, 2, 1, 1);
        due("none from the exit", y.narrow(2), 1);
        due("narrow(16)", y.narrow(16), INVALID);
        for (int far : FAR) {
            due("narrow " + far, y.narrow(far), INVALID);
        }
    }

    // promise 15
    private static void wanting() {
        PipeMoments x = Nets.chain(10, 40);
        due("units are left out", x.wanting(4, 2, 0), 1);
        due("they could wait", x.wanting(4, 2, 4), 1);
        due("nothing is between yet", x.wanting(4, 1, 0), 0);
        due("between", x.wanting(4, 1, 1), 1);
        due("the exit never", x.wanting(4, 0, 4), 0);
        due("the exit never, nor before", x.wanting(4, 0, 2), 0);
        due("all come by 6", x.wanting(6, 2, 0), 0);
        due("nor between", x.wanting(6, 1, 3), 0);
        x.room(2, 0);
        x.room(1, 0);
        due("no room to wait in", x.wanting(4, 2, 1), 0);
        due("those that come between in the tick 1", x.wanting(4, 1, 1), 1);
        due("but not later", x.wanting(4, 1, 2), 0);
        due("wanting(0, 2, 0)", x.wanting(0, 2, 0), 1);
        due("wanting(0, 1, 0)", x.wanting(0, 1, 0), 0);
        due("wanting(4, 1, 5)", x.wanting(4, 1, 5), INVALID);
        due("wanting(4, 3, 0)", x.wanting(4, 3, 0), INVALID);
        due("wanting(16, 1, 0)", x.wanting(16, 1, 0), INVALID);
        due("wanting(15, 1, 15)", x.wanting(15, 1, 15), 0);
        for (int far : FAR) {
            due("wanting by " + far, x.wanting(far, 1, 0), INVALID);
            due("wanting of place " + far, x.wanting(4, far, 0), INVALID);
            due("wanting at " + far, x.wanting(4, 1, far), INVALID);
        }
    }

    /** The one unit of 1 goes by plan; that of 3 can take its way, so that 1's own is left out. */
    private static void wantingOfOwnUnits() {
        PipeMoments x = new PipeMoments();
        x.place(1, 0);
        x.place(0, 0);
        x.place(1, 0);
        x.pipe(1, 2, 1, 1);
        x.pipe(3, 2, 1, 1);
        x.pipe(2, 0, 1, 1);
        due("come(3)", x.come(3), 1);
        due("the one or the other is left out", x.wanting(3, 1, 0), 1);
        due("the other or the one", x.wanting(3, 3, 0), 1);
        due("one more could come between", x.wanting(3, 2, 1), 1);
        due("narrow(3)", x.narrow(3), 4);
        x.units(3, 0);
        due("none to take its way", x.wanting(3, 1, 0), 0);
        due("none is there", x.wanting(3, 3, 0), 0);
    }

    // promise 16
    private static void dearest() {
        PipeMoments x = new PipeMoments();
        due("dearest(0, 0) of none", x.dearest(0, 0), NOT_FOUND);
        due("dearest(0, 1) of none", x.dearest(0, 1), NOT_FOUND);
        due("dearest(0, 2) of none", x.dearest(0, 2), INVALID);
        due("dearest(16, 0) of none", x.dearest(16, 0), INVALID);
        x.place(10, 0);
        x.pipe(1, 0, 1, 2);
        x.pipe(1, 0, 1, 4);
        x.pipe(1, 0, 1, 4);
        x.pipe(1, 0, 3, 9);
        due("dearest(1, 0)", x.dearest(1, 0), 1);
        due("dearest(1, 1)", x.dearest(1, 1), 6);
        due("dearest(0, 0)", x.dearest(0, 0), 0);
        due("dearest(0, 1)", x.dearest(0, 1), 0);
        due("others take over", x.dearest(3, 0), 0);
        due("others take over, all", x.dearest(3, 1), 10);
        x.units(0, 5);
        x.units(1, 20);
        due("dearest(3, 0)", x.dearest(3, 0), 3);
        due("dearest(3, 1)", x.dearest(3, 1), 15);
        for (int far : FAR) {
            due("dearest by " + far, x.dearest(far, 0), INVALID);
            due("dearest what " + far, x.dearest(1, far), INVALID);
        }
        due("dearest(16, 0)", x.dearest(16, 0), INVALID);
        due("dearest(1, 2)", x.dearest(1, 2), INVALID);
        due("nothing has changed", x.count(1), 4);
    }

    // promise 17
    private static void helpful() {
        PipeMoments x = new PipeMoments();
        due("helpful(0, 0) of none", x.helpful(0, 0), NOT_FOUND);
        due("helpful(0, 2) of none", x.helpful(0, 2), INVALID);
        x.place(20, 40);
        x.place(20, 40);
        x.pipe(2, 0, 2, 1);
        x.pipe(1, 0, 1, 9);
        x.pipe(2, 0, 2, 2);
        due("too early", x.helpful(0, 0), NOT_FOUND);
        due("helpful(1, 0)", x.helpful(1, 0), 1);
        due("also above 9", x.helpful(1, 1), 1);
        due("helpful(2, 0)", x.helpful(2, 0), 1);
        due("helpful(2, 1)", x.helpful(2, 1), 2);
        due("of several the lowest", x.helpful(4, 0), 0);
        due("in each tick", x.helpful(4, 1), 3);
        due("not more than there are", x.helpful(8, 0), NOT_FOUND);
        x.open(0, 1, 1);
        due("only when it is open", x.helpful(4, 0), 2);
        due("only when it is open, 3", x.helpful(4, 1), 3);
        PipeMoments y = Nets.chain(10, 40);
        due("the last one", y.helpful(4, 0), 1);
        due("the last one, by", y.helpful(4, 1), 3);
        for (int far : FAR) {
            due("helpful by " + far, y.helpful(far, 0), INVALID);
            due("helpful what " + far, y.helpful(4, far), INVALID);
        }
        due("helpful(16, 0)", y.helpful(16, 0), INVALID);
        due("helpful(4, 2)", y.helpful(4, 2), INVALID);
        due("nothing has changed", y.count(3), 7);
    }

    // promise 18
    private static void withOneMore() {
        PipeMoments x = Nets.line();
        due("all have come by 5", x.withOneMore(5, 1), 11);
        due("no more by 4", x.withOneMore(4, 1), 9);
        due("one of the exit's", x.withOneMore(4, 0), 10);
        due("withOneMore(0, 0)", x.withOneMore(0, 0), 1);
        x.units(1, 20);
        due("also above 20", x.withOneMore(15, 1), 21);
        x.units(0, 20);
        due("also above 20 at the exit", x.withOneMore(15, 0), 41);
        due("withOneMore(16, 1)", x.withOneMore(16, 1), INVALID);
        due("withOneMore(1, 2)", x.withOneMore(1, 2), INVALID);
        for (int far : FAR) {
            due("withOneMore by " + far, x.withOneMore(far, 1), INVALID);
            due("withOneMore at " + far, x.withOneMore(1, far), INVALID);
        }
        due("nothing has changed", x.count(2), 40);
    }

    // promise 19
    private static void count() {
        PipeMoments x = Nets.chain(10, 40);
        x.units(0, 3);
        Nets.write(x, "u1");
        int[] counts = {3, 2, 13, 7, 4, 2};
        for (int what = 0; what < counts.length; what++) {
            due("count(" + what + ")", x.count(what), counts[what]);
        }
        due("count(6)", x.count(6), INVALID);
        for (int far : FAR) {
            due("count " + far, x.count(far), INVALID);
        }
    }

    // promise 20
    private static void undo() {
        PipeMoments x = new PipeMoments();
        for (int units = 1; units <= 6; units++) {
            x.units(0, units);
            due("states", x.count(4), Math.min(units, 4));
        }
        x.type('a');
        due("undo()", x.undo(), 3);
        due("units then", x.count(2), 5);
        due("undo()", x.undo(), 2);
        due("undo()", x.undo(), 1);
        due("undo()", x.undo(), 0);
        due("the oldest ones were dropped", x.count(2), 2);
        due("undo()", x.undo(), NOT_POSSIBLE);
        due("units stay", x.count(2), 2);
        due("the text stays", x.count(5), 1);
        x.units(0, 2);
        due("a change that changes nothing", x.count(4), 1);
        x.units(0, 9);
        due("undo()", x.undo(), 1);
        x.units(0, 8);
        due("undo()", x.undo(), 1);
        due("the latest one", x.count(2), 2);
    }

    private static void undoOfEachChange() {
        PipeMoments x = Nets.chain(10, 3);
        x.undo();
        due("of pipe", x.count(1), 1);
        x.dropPipe(0);
        x.undo();
        due("of dropPipe", x.pipeOf(0, 0), 2);
        x.open(0, 4, 5);
        x.undo();
        due("of open, first", x.pipeOf(0, 4), 0);
        due("of open, last", x.pipeOf(0, 5), 15);
        x.widen(0, 9);
        x.undo();
        due("of widen", x.pipeOf(0, 3), 5);
        x.units(2, 1);
        x.undo();
        due("of units", x.placeOf(2, 0), 10);
        x.room(1, 1);
        x.undo();
        due("of room", x.placeOf(1, 1), 3);
        x.place(1, 1);
        x.undo();
        due("of place", x.placeOf(3, 0), INVALID);
        Nets.write(x, "h1,1;p3,1,1,1;u2,3;o0,1,1;");
        x.play();
        due("undo of play", x.undo(), 3);
        due("of play, places", x.count(0), 3);
        due("of play, pipes", x.count(1), 1);
        due("of play, units", x.placeOf(2, 0), 10);
        due("of play, openings", x.pipeOf(0, 4), 0);
        due("of play, not the text", x.count(5), 26);
        due("of pipe, the first", x.undo(), 2);
        due("none is left", x.pipeOf(0, 0), INVALID);
    }

    // promise 21
    private static void type() {
        PipeMoments x = new PipeMoments();
        due("type(31)", x.type(31), INVALID);
        due("type(127)", x.type(127), INVALID);
        for (int far : FAR) {
            due("type " + far, x.type(far), INVALID);
        }
        due("type(32)", x.type(32), 1);
        due("type(126)", x.type(126), 2);
        for (int length = 3; length <= 60; length++) {
            due("type to " + length, x.type(';'), length);
        }
        due("the 61st", x.type(';'), LIMIT);
        due("the 61st, wrong too", x.type(127), INVALID);
        due("count(5)", x.count(5), 60);
        due("it is no change", x.count(4), 0);
        due("undo()", x.undo(), NOT_POSSIBLE);
    }

    // promise 22
    private static void clearText() {
        PipeMoments x = new PipeMoments();
        due("clearText()", x.clearText(), 0);
        Nets.write(x, "abc");
        due("fault(0)", x.fault(0), 0);
        due("clearText()", x.clearText(), 3);
        due("count(5)", x.count(5), 0);
        due("fault(0)", x.fault(0), NOT_FOUND);
        due("type('u')", x.type('u'), 1);
        due("it is no change", x.count(4), 0);
    }

    private static void fault(PipeMoments x, String text, int position, int reason, int cause) {
        Nets.write(x, text);
        due("position in " + text, x.fault(0), position);
        due("reason in " + text, x.fault(1), reason);
        due("cause in " + text, x.fault(2), cause);
        due("play of " + text, x.play(), NOT_POSSIBLE);
    }

    // promise 23
    private static void faultOfTheForm() {
        PipeMoments x = Nets.line();
        fault(x, "x", 0, 1, 0);
        fault(x, ";", 0, 1, 0);
        fault(x, " h1,1;", 0, 1, 0);
        fault(x, "h", 0, 1, 1);
        fault(x, "h;", 0, 1, 1);
        fault(x, "h1", 0, 1, 2);
        fault(x, "h12", 0, 1, 3);
        fault(x, "h1,", 0, 1, 3);
        fault(x, "h1,2", 0, 1, 4);
        fault(x, "h1,22", 0, 1, 5);
        fault(x, "h1;", 0, 1, 2);
        fault(x, "h100,2;", 0, 1, 3);
        fault(x, "h1,222;", 0, 1, 5);
        fault(x, "h1,2,", 0, 1, 4);
        fault(x, "h-1,2;", 0, 1, 1);
        fault(x, "h1,,2;", 0, 1, 3);
        fault(x, "p1,0,1;", 0, 1, 6);
        fault(x, "p1,0,1,1,", 0, 1, 8);
        fault(x, "p1,0,1,1", 0, 1, 8);
        fault(x, "o0,1;", 0, 1, 4);
        fault(x, "o0,1,1,1;", 0, 1, 6);
        fault(x, "u0;", 0, 1, 2);
        fault(x, "u0,1,2;", 0, 1, 4);
        fault(x, "u0,/;", 0, 1, 3);
        fault(x, "u0,:;", 0, 1, 3);
        fault(x, "H1,1;", 0, 1, 0);
        fault(x, "u0,1;u0,1;;", 10, 1, 0);
        fault(x, "u0,1;h1,1", 5, 1, 4);
        fault(x, "u0,1; ", 5, 1, 0);
        fault(x, "h99,1", 0, 1, 5);
    }

    private static void faultOfNumbers() {
        PipeMoments x = Nets.line();
        fault(x, "h21,0;", 0, 2, 0);
        fault(x, "h20,41;", 0, 2, 1);
        fault(x, "h21,41;", 0, 2, 0);
        fault(x, "p2,0,1,1;", 0, 2, 0);
        fault(x, "p0,2,1,1;", 0, 2, 1);
        fault(x, "p1,1,0,0;", 0, 2, 1);
        fault(x, "p2,2,1,1;", 0, 2, 0);
        fault(x, "p1,0,0,1;", 0, 2, 2);
        fault(x, "p1,0,5,0;", 0, 2, 2);
        fault(x, "p1,0,4,0;", 0, 2, 3);
        fault(x, "p1,0,4,10;", 0, 2, 3);
        fault(x, "o1,0,0;", 0, 2, 0);
        fault(x, "o0,16,16;", 0, 2, 1);
        fault(x, "o0,0,16;", 0, 2, 2);
        fault(x, "u2,0;", 0, 2, 0);
        fault(x, "u1,21;", 0, 2, 1);
        fault(x, "u02,00;", 0, 2, 0);
        Nets.write(x, "h00,00;o00,00,00;u00,09;");
        due("0 ahead is allowed", x.fault(0), NOT_FOUND);
    }

    private static void faultOfLimits() {
        PipeMoments x = new PipeMoments();
        fault(x, "h1,1;h1,1;h1,1;h1,1;h1,1;h1,1;", 25, 3, NOT_FOUND);
        fault(x, "h1,1;h1,1;h1,1;h1,1;h1,1;h1,41;", 25, 2, 1);
        fault(x, "h1,1;h1,1;h1,1;h1,1;h1,1;h1,1", 25, 1, 4);
        x.place(0, 0);
        for (int pipe = 0; pipe < 9; pipe++) {
            x.pipe(1, 0, 1, 1);
        }
        fault(x, "p1,0,1,1;p1,0,1,1;", 9, 3, NOT_FOUND);
        fault(x, "p1,0,1,1;p1,0,5,1;", 9, 2, 2);
        fault(x, "p1,0,1,1;u0,9;o9,1,1;h1,1;h1,1;h1,1;h1,1;h1,1;", 41, 3, NOT_FOUND);
    }

    private static void faultAfterOthers() {
        PipeMoments x = new PipeMoments();
        fault(x, "p1,0,1,1;", 0, 2, 0);
        fault(x, "h5,5;p1,0,1,1;o0,3,1;u1,7;p2,0,1,1;", 26, 2, 0);
        fault(x, "h5,5;p1,0,1,1;o1,3,1;", 14, 2, 0);
        fault(x, "h5,5;u2,1;z", 5, 2, 0);
        fault(x, "z;u2,1;", 0, 1, 0);
        due("nothing was done", x.count(0), 1);
        due("fault(3)", x.fault(3), INVALID);
        for (int far : FAR) {
            due("fault " + far, x.fault(far), INVALID);
        }
        Nets.write(x, "u0,3;");
        for (int what = 0; what < 3; what++) {
            due("no fault " + what, x.fault(what), NOT_FOUND);
        }
        due("fault(3) without one", x.fault(3), INVALID);
        due("fault is no change", x.count(4), 0);
        due("fault does nothing", x.count(2), 0);
        Nets.write(x, "u1,4;");
        due("as it is now", x.fault(0), 0);
        x.place(0, 0);
        due("as it is then", x.fault(0), NOT_FOUND);
        x.undo();
        due("as it was", x.fault(0), 0);
    }

    // promise 24
    private static void play() {
        PipeMoments x = new PipeMoments();
        due("play() of none", x.play(), 0);
        due("one change, also if there are none", x.count(4), 1);
        Nets.write(x, "h07,06;h9,40;p1,0,2,3;p02,01,4,09;o1,2,15;u0,4;u2,20;");
        due("play()", x.play(), 7);
        due("one change", x.count(4), 2);
        due("the text stays", x.count(5), 53);
        due("count(0)", x.count(0), 3);
        due("placeOf(1, 0)", x.placeOf(1, 0), 7);
        due("placeOf(1, 1)", x.placeOf(1, 1), 6);
        due("placeOf(2, 0)", x.placeOf(2, 0), 20);
        due("placeOf(2, 1)", x.placeOf(2, 1), 40);
        due("placeOf(0, 0)", x.placeOf(0, 0), 4);
        int[] parts = {2, 1, 4, 9, 2, 15};
        for (int what = 0; what < parts.length; what++) {
            due("pipeOf(1, " + what + ")", x.pipeOf(1, what), parts[what]);
        }
        due("pipeOf(0, 5)", x.pipeOf(0, 5), 15);
        due("play() again", x.play(), 7);
        due("count(0)", x.count(0), 5);
        due("play() once more", x.play(), NOT_POSSIBLE);
        due("nothing was done", x.count(0), 5);
        due("no change", x.count(4), 3);
        due("undo()", x.undo(), 2);
        due("undo()", x.undo(), 1);
        due("count(0)", x.count(0), 1);
    }

    private static void errorsChangeNothing() {
        PipeMoments x = Nets.chain(10, 3);
        x.undo();
        x.place(21, 0);
        x.pipe(1, 1, 1, 1);
        x.dropPipe(7);
        x.open(0, 16, 3);
        x.open(0, 3, 16);
        x.widen(0, 10);
        x.units(2, 21);
        x.room(1, 41);
        Nets.write(x, "u2,3;u9,1;");
        x.play();
        due("states", x.count(4), 3);
        due("places", x.count(0), 3);
        due("pipes", x.count(1), 1);
        due("units", x.placeOf(2, 0), 10);
        due("room", x.placeOf(1, 1), 3);
        due("first", x.pipeOf(0, 4), 0);
        due("last", x.pipeOf(0, 5), 15);
        due("bound", x.pipeOf(0, 3), 5);
    }

    private PromiseTest() {
    }
}
