/**
 * What the document's sections "Places and pipes", "Plans", "Repeated plans" and "Narrow places" say:
 * under each sentence that names a boundary, what is due at it and beside it.
 */
public final class NetSentencesTest {
    private static final int INVALID = Nets.INVALID;
    private static final int LIMIT = Nets.LIMIT;
    private static final int NOT_FOUND = Nets.NOT_FOUND;
    private static final int LAST_TICK = 15;

    private static final Check check = new Check();

    public static void main(String[] args) {
        places();
        pipes();
        droppedPipes();
        partsOfPipes();
        firstAndLastTicks();
        entering();
        comingThrough();
        unitsInTheFirstTick();
        waiting();
        waitingBetween();
        theExit();
        noUnitIsLost();
        leftOut();
        mostByATick();
        noPipe();
        pipeNeverOpen();
        repeatedPlans();
        wantingUpToTheTick();
        wantingOfUnitsLeftOut();
        wantingWithoutRoom();
        wantingOfAnyPlan();
        narrowPipes();
        check.end();
    }

    private static void due(String call, int got, int want) {
        check.due(call, got, want);
    }

    /** What can have come by each tick from 0 on, and by all ticks behind as by the last one told. */
    private static void comes(PipeMoments x, int... dueBy) {
        for (int tick = 0; tick <= LAST_TICK; tick++) {
            due("come(" + tick + ")", x.come(tick), dueBy[Math.min(tick, dueBy.length - 1)]);
        }
    }

    // ---- places and pipes

    private static void places() {
        check.says("There are at most 6 places, numbered from 0");
        PipeMoments x = new PipeMoments();
        for (int place = 1; place <= 5; place++) {
            due("place " + place, x.place(place, 30 + place), place);
        }
        due("the seventh", x.place(6, 36), LIMIT);
        due("count(0)", x.count(0), 6);
        for (int place = 1; place <= 5; place++) {
            due("units of " + place, x.placeOf(place, 0), place);
            due("room of " + place, x.placeOf(place, 1), 30 + place);
        }
        due("there is no place 6", x.placeOf(6, 0), INVALID);

        check.says("the place 0, which is there at first, is the exit");
        x = new PipeMoments();
        due("count(0)", x.count(0), 1);
        due("the exit's least tick", x.placeOf(0, 4), 0);
        due("units(0, 2)", x.units(0, 2), 0);
        due("what is there has come", x.come(0), 2);

        check.says("A place has units (0 to 20; 0 at first) and a waiting room (0 to 40; 40 at first)");
        x = new PipeMoments();
        due("units at first", x.placeOf(0, 0), 0);
        due("room at first", x.placeOf(0, 1), 40);
        due("units(0, 20)", x.units(0, 20), 0);
        due("room(0, 0)", x.room(0, 0), 40);
        due("units(0, 0)", x.units(0, 0), 20);
        due("room(0, 40)", x.room(0, 40), 0);
        due("the room at last", x.placeOf(0, 1), 40);
    }

    private static void pipes() {
        check.says("There are at most 10 pipes, numbered from 0");
        PipeMoments x = new PipeMoments();
        x.place(20, 40);
        for (int pipe = 0; pipe <= 9; pipe++) {
            due("pipe " + pipe, x.pipe(1, 0, 1, 1), pipe);
        }
        due("the eleventh", x.pipe(1, 0, 1, 1), LIMIT);
        due("count(1)", x.count(1), 10);
        due("there is no pipe 10", x.pipeOf(10, 0), INVALID);
        due("all ten carry", x.come(1), 10);
        due("dropPipe(9)", x.dropPipe(9), 9);
        due("there is no pipe 9", x.pipeOf(9, 0), INVALID);
        due("nine carry", x.come(1), 9);
        due("there is one to add again", x.pipe(1, 0, 1, 1), 9);
    }

    private static void droppedPipes() {
        check.says("if one is dropped, those behind it have numbers that are less by 1");
        for (int dropped = 0; dropped < 10; dropped++) {
            PipeMoments x = Nets.full();
            x.open(9, 7, 8);
            x.dropPipe(dropped);
            for (int pipe = 0; pipe < 9; pipe++) {
                int before = pipe < dropped ? pipe : pipe + 1;
                int[] parts = {1 + before % 5, before % 5, 1 + before % 4, 1 + before % 5,
                    before == 9 ? 7 : 0, before == 9 ? 8 : 15};
                for (int what = 0; what < parts.length; what++) {
                    due("without " + dropped + ": pipeOf(" + pipe + ", " + what + ")", x.pipeOf(pipe, what), parts[what]);
                }
            }
            due("without " + dropped + ": pipe 9", x.pipeOf(9, 0), INVALID);
        }
    }

    private static void partsOfPipes() {
        check.says("A pipe goes from a place to another one");
        PipeMoments x = Nets.longLine();
        for (int place = 0; place < 3; place++) {
            due("from and to " + place, x.pipe(place, place, 1, 1), INVALID);
        }
        x.units(2, 0);
        due("it carries", x.repeated(2, 3), 3);
        due("it does not carry back", x.wanting(4, 2, 1), 0);

        check.says("it has a time (1 to 4 ticks), a bound (1 to 9 units)");
        for (int time = 1; time <= 4; time++) {
            for (int bound = 1; bound <= 9; bound++) {
                x = Nets.line(20, 0, time, bound);
                due("by the tick before " + time, x.come(time - 1), 0);
                due("by the tick " + time + " at most " + bound, x.come(time), bound);
                due("all that could go in the tick 0", x.come(15), bound);
            }
        }
    }

    private static void firstAndLastTicks() {
        check.says("a first and a last tick (0 to 15; 0 and 15 at first)");
        PipeMoments x = Nets.line(20, 40, 1, 1);
        due("the first one at first", x.pipeOf(0, 4), 0);
        due("the last one at first", x.pipeOf(0, 5), 15);
        comes(x, 0, 1, 2, 3, 4, 5, 6, 7, 8, 9, 10, 11, 12, 13, 14, 15);
        x.open(0, 3, 4);
        x.dropPipe(0);
        x.pipe(1, 0, 1, 1);
        due("the first one of a new pipe", x.pipeOf(0, 4), 0);
        due("the last one of a new pipe", x.pipeOf(0, 5), 15);

        check.says("from which and until which it can be entered");
        x = Nets.line();
        x.open(0, 3, 5);
        comes(x, 0, 0, 0, 0, 0, 3, 6, 9, 9);
        x.open(0, 3, 3);
        comes(x, 0, 0, 0, 0, 0, 3);
        x.open(0, 0, 0);
        comes(x, 0, 0, 3);
        x.open(0, 13, 15);
        comes(x, 0, 0, 0, 0, 0, 0, 0, 0, 0, 0, 0, 0, 0, 0, 0, 3);
        x.open(0, 14, 15);
        comes(x, 0);
    }

    // ---- plans

    private static void entering() {
        check.says("how many units enter the pipe in this tick (0 to its bound");
        PipeMoments x = Nets.line(20, 40, 1, 9);
        comes(x, 0, 9, 18, 20);
        x.widen(0, 1);
        due("one in each tick", x.come(15), 15);
        due("none is enough", x.earliest(0), 0);

        check.says("and 0 if it is not open then)");
        x = Nets.line(20, 40, 1, 9);
        x.open(0, 1, 1);
        comes(x, 0, 0, 9);
        x.open(0, 2, 1);
        comes(x, 0);
    }

    private static void comingThrough() {
        check.says("they come to its other end in the tick t plus its time");
        for (int time = 1; time <= 4; time++) {
            PipeMoments x = Nets.line(5, 40, time, 5);
            int entered = LAST_TICK - time;
            x.open(0, entered, entered);
            due("before, of time " + time, x.come(14), 0);
            due("in the tick 15, of time " + time, x.come(15), 5);
            due("the least tick, of time " + time, x.placeOf(1, 4), 15);
            due("all by then, of time " + time, x.earliest(-1), 15);
            x.open(0, entered + 1, entered + 1);
            due("in the tick 16, of time " + time, x.come(15), 0);
            due("by no tick, of time " + time, x.placeOf(1, 4), NOT_FOUND);
            due("all by no tick, of time " + time, x.earliest(-1), NOT_FOUND);
        }
    }

    private static void unitsInTheFirstTick() {
        check.says("In the tick 0 each place has its units.");
        PipeMoments x = Nets.line(5, 0, 1, 9);
        x.place(7, 0);
        x.pipe(2, 0, 1, 9);
        x.units(0, 3);
        due("those of the exit", x.come(0), 3);
        due("those of all places", x.come(1), 15);
        x.units(1, 0);
        due("a place without units", x.come(1), 10);

        check.says("those that waited there since the tick before and those that come in this tick");
        x = Nets.chain(2, 1);
        x.units(1, 1);
        x.widen(0, 1);
        x.widen(1, 9);
        x.open(1, 1, 1);
        due("one that waited and one that comes", x.come(2), 2);
        x.room(1, 0);
        due("the one that comes", x.come(2), 1);
        x.room(1, 1);
        x.open(1, 0, 0);
        due("its own in the tick 0", x.come(1), 1);
    }

    private static void waiting() {
        check.says("some of them enter pipes, the others wait, at most as many as its waiting room has");
        for (int room = 0; room <= 5; room++) {
            PipeMoments x = Nets.line(4, room, 1, 1);
            due("one goes and so many wait: " + room, x.come(15), Math.min(4, 1 + room));
            x.open(0, 1, 15);
            due("so many wait: " + room, x.come(15), Math.min(4, room));
        }
        PipeMoments x = Nets.line(20, 40, 1, 9);
        x.room(1, 10);
        comes(x, 0, 9, 18, 19);
        x.room(1, 11);
        comes(x, 0, 9, 18, 20);
    }

    private static void waitingBetween() {
        check.says("the others wait, at most as many as its waiting room has");
        // in each tick five come and two go on
        for (int room = 0; room <= 3; room++) {
            PipeMoments x = Nets.chain(5, room);
            x.room(2, 0);
            due("of five, two go on and so many wait: " + room, x.come(15), 2 + room);
        }
        PipeMoments x = Nets.chain(20, 0);
        comes(x, 0, 0, 2, 4, 6, 8, 10, 12, 14, 16, 18, 20);
        x.open(1, 2, 15);
        due("who comes in the tick 1 can't wait", x.come(3), 2);
        x.open(0, 0, 0);
        due("none comes when it opens", x.come(15), 0);
        x.room(1, 40);
        due("all wait for it", x.come(15), 5);
    }

    private static void theExit() {
        check.says("units that come to the exit stay there (pipes from it carry nothing)");
        PipeMoments x = Nets.line(5, 40, 1, 5);
        x.units(0, 4);
        x.place(0, 40);
        x.pipe(0, 2, 1, 9);
        x.pipe(0, 1, 1, 9);
        x.pipe(2, 0, 1, 9);
        comes(x, 4, 9);
        due("none comes to 2", x.wanting(15, 2, 1), 0);
        due("none by way of the exit", x.narrow(2), 0);
        due("none from it to 1", x.repeated(1, 2), 10);
        due("none from it to 2", x.repeated(2, 2), 18);
        x.dropPipe(0);
        x.pipe(2, 1, 4, 9);
        due("not through the exit", x.placeOf(2, 4), 1);

        check.says("and it has room for all");
        x = Nets.full();
        x.units(0, 20);
        for (int place = 1; place < 6; place++) {
            x.units(place, 20);
        }
        x.room(0, 0);
        due("the exit keeps its own", x.come(0), 20);
        x = Nets.line(20, 40, 1, 9);
        x.units(0, 20);
        x.room(0, 0);
        comes(x, 20, 29, 38, 40);
        PipeMoments y = allAtOnce();
        y.room(0, 0);
        comes(y, 20, 65, 110, 120);
    }

    /** All the units that there can be: 120, from each place nine in each tick to the exit. */
    private static PipeMoments allAtOnce() {
        PipeMoments x = new PipeMoments();
        x.units(0, 20);
        for (int place = 1; place < 6; place++) {
            x.place(20, 40);
            x.pipe(place, 0, 1, 9);
        }
        return x;
    }

    private static void noUnitIsLost() {
        check.says("where more units would be left than can wait, there is no such plan");
        // what goes to 2 can neither wait nor go on
        PipeMoments x = new PipeMoments();
        x.place(5, 0);
        x.place(0, 0);
        x.pipe(1, 2, 1, 9);
        x.pipe(1, 0, 1, 2);
        due("three can't be sent away to where they are lost", x.come(2), 2);
        x.room(1, 2);
        due("two wait", x.come(2), 4);
        PipeMoments y = Nets.chain(9, 1);
        y.widen(0, 9);
        y.room(2, 0);
        due("of nine that could come, two go on and one waits", y.come(15), 3);
    }

    private static void leftOut() {
        check.says("so many of the units of a place as the plan wants are left out of it from the beginning");
        PipeMoments x = Nets.line(20, 0, 1, 1);
        due("nineteen are left out", x.come(1), 1);
        due("all are left out by 0", x.come(0), 0);
        x.open(0, 5, 4);
        due("all are left out", x.come(15), 0);

        check.says("and need no room");
        x = Nets.line(20, 0, 1, 1);
        comes(x, 0, 1);
        x.room(1, 1);
        comes(x, 0, 1, 2);
    }

    private static void mostByATick() {
        check.says("the greatest number of units that are at the exit in the tick t, of all plans (the units of the "
            + "exit itself count, too)");
        PipeMoments x = new PipeMoments();
        comes(x, 0);
        x.units(0, 20);
        comes(x, 20);
        comes(allAtOnce(), 20, 65, 110, 120);
        due("all of 120", allAtOnce().earliest(120), 3);

        check.says("What comes later does not matter.");
        // without room, each unit goes the quick way or the slow one
        PipeMoments y = Nets.line(5, 0, 1, 2);
        y.pipe(1, 0, 4, 3);
        comes(y, 0, 2, 2, 2, 5);
        // the unit of 1 has the quick way by 2, and leaves it to that of 3 by 4
        PipeMoments z = new PipeMoments();
        z.place(1, 0);
        z.place(0, 0);
        z.place(1, 0);
        z.pipe(1, 2, 1, 1);
        z.pipe(2, 0, 1, 1);
        z.pipe(3, 2, 1, 1);
        z.pipe(1, 0, 4, 1);
        comes(z, 0, 0, 1, 1, 2);
    }

    private static void noPipe() {
        check.says("NOT_FOUND if there is no pipe.");
        PipeMoments x = new PipeMoments();
        x.place(5, 1);
        x.units(0, 3);
        comes(x, 3);
        due("earliest(3)", x.earliest(3), 0);
        due("earliest(4)", x.earliest(4), NOT_FOUND);
        due("earliest(-1)", x.earliest(-1), NOT_FOUND);
        due("repeated(1, 15)", x.repeated(1, 15), 0);
        due("narrow(15)", x.narrow(15), 0);
        due("wanting(15, 1, 0)", x.wanting(15, 1, 0), 1);
        due("wanting(15, 1, 15)", x.wanting(15, 1, 15), 1);
        due("wanting(15, 0, 15)", x.wanting(15, 0, 15), 0);
        due("dearest(15, 0)", x.dearest(15, 0), NOT_FOUND);
        due("dearest(15, 1)", x.dearest(15, 1), NOT_FOUND);
        due("helpful(15, 0)", x.helpful(15, 0), NOT_FOUND);
        due("helpful(15, 1)", x.helpful(15, 1), NOT_FOUND);
        due("withOneMore(15, 0)", x.withOneMore(15, 0), 4);
        due("withOneMore(15, 1)", x.withOneMore(15, 1), 3);
        due("placeOf(1, 2)", x.placeOf(1, 2), 0);
        due("placeOf(1, 3)", x.placeOf(1, 3), 0);
        due("placeOf(1, 4)", x.placeOf(1, 4), NOT_FOUND);
        due("count(1)", x.count(1), 0);
        due("count(3)", x.count(3), 0);
    }

    private static void pipeNeverOpen() {
        check.says("below first it is never open");
        PipeMoments x = Nets.line();
        due("open(0, 1, 0)", x.open(0, 1, 0), 0);
        comes(x, 0);
        due("open(0, 15, 14)", x.open(0, 15, 14), 0);
        comes(x, 0);
        due("open(0, 15, 0)", x.open(0, 15, 0), 0);
        comes(x, 0);
        due("earliest(-1)", x.earliest(-1), NOT_FOUND);
        due("placeOf(1, 4)", x.placeOf(1, 4), NOT_FOUND);
        due("it is there all the same", x.placeOf(1, 2), 1);
        due("narrow(15)", x.narrow(15), 0);
        due("dearest(15, 0)", x.dearest(15, 0), 0);
        due("dearest(15, 1)", x.dearest(15, 1), 0);
        due("helpful(15, 0)", x.helpful(15, 0), NOT_FOUND);
        due("withOneMore(15, 1)", x.withOneMore(15, 1), 0);
        due("repeated plans don't ask", x.repeated(1, 3), 6);
    }

    // ---- repeated plans

    private static void repeatedPlans() {
        check.says("For a place other than the exit");
        due("repeated(0, 15)", Nets.line().repeated(0, 15), INVALID);
        due("repeated(1, 15)", Nets.line().repeated(1, 15), 42);
        due("of a new object", new PipeMoments().repeated(0, 0), INVALID);

        check.says("if it had units without end and no other place had any");
        PipeMoments x = Nets.chain(20, 40);
        x.units(0, 20);
        x.units(1, 20);
        for (int tick = 0; tick <= LAST_TICK; tick++) {
            due("repeated(2, " + tick + ")", x.repeated(2, tick), Math.max(0, 2 * (tick - 1)));
            due("repeated(1, " + tick + ")", x.repeated(1, tick), 2 * tick);
        }
        x.units(2, 0);
        due("without units of its own", x.repeated(2, 15), 28);
        PipeMoments wide = new PipeMoments();
        wide.place(0, 0);
        for (int pipe = 0; pipe < 10; pipe++) {
            wide.pipe(1, 0, 1, 9);
        }
        due("the most of all", wide.repeated(1, 15), 1350);

        check.says("all waiting rooms were 0 (but that of the place, which would have no bound)");
        PipeMoments y = Nets.chain(0, 40);
        y.room(2, 0);
        due("its own room is 0", y.repeated(2, 15), 28);
        // two come in each tick with any room: endless units gain nothing by waiting on their way
        int[] rooms = {0, 1, 40};
        for (int room : rooms) {
            y.room(1, room);
            for (int tick = 0; tick <= LAST_TICK; tick++) {
                due("room " + room + ": repeated(2, " + tick + ")", y.repeated(2, tick), Math.max(0, 2 * (tick - 1)));
            }
        }

        check.says("and all pipes were open always");
        y.open(0, 15, 0);
        y.open(1, 9, 9);
        due("repeated(2, 15)", y.repeated(2, 15), 28);
        due("come(15)", y.come(15), 0);
    }

    // ---- narrow places

    private static void wantingUpToTheTick() {
        check.says("a place at a tick (up to t) is wanting");
        PipeMoments x = Nets.line(20, 40, 1, 1);
        for (int tick = 0; tick <= LAST_TICK; tick++) {
            due("wanting(" + tick + ", 1, 0)", x.wanting(tick, 1, 0), 1);
            due("wanting(" + tick + ", 1, " + tick + ")", x.wanting(tick, 1, tick), 1);
            due("wanting(" + tick + ", 1, " + (tick + 1) + ")", x.wanting(tick, 1, tick + 1), INVALID);
            due("wanting(" + tick + ", 0, " + tick + ")", x.wanting(tick, 0, tick), 0);
        }
    }

    private static void wantingOfUnitsLeftOut() {
        check.says("one unit more (one that was left out) comes to this place at this tick");
        PipeMoments x = Nets.chain(4, 40);
        for (int tick = 0; tick <= LAST_TICK; tick++) {
            // by 3 all four have come to the exit, and none is left out
            int leftOut = tick < 3 ? 1 : 0;
            due("at 2, by " + tick, x.wanting(tick, 2, 0), leftOut);
            due("at 2, in " + tick, x.wanting(tick, 2, tick), leftOut);
            due("at 1 in the tick 0, by " + tick, x.wanting(tick, 1, 0), 0);
            if (tick > 0) {
                due("at 1 in the tick 1, by " + tick, x.wanting(tick, 1, 1), leftOut);
            }
        }
        x.units(2, 5);
        due("five do not all come by 3", x.wanting(3, 1, 1), 1);
        due("five all come by 4", x.wanting(4, 1, 1), 0);

        check.says("or is there in the tick 0 if it is one of its own units");
        PipeMoments y = new PipeMoments();
        y.place(1, 0);
        y.place(0, 40);
        due("one of its own", y.wanting(0, 1, 0), 1);
        due("none of its own", y.wanting(0, 2, 0), 0);
        y.units(0, 20);
        due("the exit's have all come", y.wanting(0, 0, 0), 0);
    }

    private static void wantingWithoutRoom() {
        check.says("and is gone then, without needing room");
        PipeMoments x = Nets.chain(20, 0);
        x.room(2, 0);
        due("it comes where there is no room", x.wanting(15, 1, 1), 1);
        due("it can't wait there", x.wanting(15, 1, 2), 0);
        due("it is where there is no room", x.wanting(15, 2, 0), 1);
        due("nor wait", x.wanting(15, 2, 1), 0);
        x.room(1, 1);
        due("it comes beside the one that waits there", x.wanting(15, 1, 1), 1);
        due("it can't wait beside it", x.wanting(15, 1, 2), 0);
        PipeMoments y = Nets.line(3, 1, 1, 1);
        due("it is where one goes and one waits", y.wanting(15, 1, 0), 1);
        due("it can't wait beside that one", y.wanting(15, 1, 1), 0);
        y.room(1, 2);
        due("none is left out", y.wanting(15, 1, 0), 0);
    }

    private static void wantingOfAnyPlan() {
        check.says("(Which places are wanting does not depend on the plan.)");
        // either of both units can come by the one way, the other one is left out
        for (int first = 1; first <= 2; first++) {
            PipeMoments x = new PipeMoments();
            x.place(1, 0);
            x.place(1, 0);
            x.place(0, 0);
            x.pipe(first, 3, 1, 1);
            x.pipe(3 - first, 3, 1, 1);
            x.pipe(3, 0, 1, 1);
            due("come(2)", x.come(2), 1);
            due("wanting(2, 1, 0)", x.wanting(2, 1, 0), 1);
            due("wanting(2, 2, 0)", x.wanting(2, 2, 0), 1);
            due("wanting(2, 3, 1)", x.wanting(2, 3, 1), 1);
            due("narrow(2)", x.narrow(2), 4);
        }
    }

    private static void narrowPipes() {
        check.says("there is a tick in which it can be entered with a wanting beginning");
        PipeMoments x = Nets.line(10, 0, 1, 3);
        due("in the tick 0", x.narrow(15), 1);
        x.open(0, 1, 15);
        due("the beginning is wanting in the tick 0 alone", x.narrow(15), 0);
        x.room(1, 1);
        due("in the tick 1, where one is that has no room in the plan", x.narrow(15), 0);
        x.room(1, 4);
        due("in the tick 1, where the fourth one can't go", x.narrow(2), 1);
        x.units(1, 0);
        due("it is not wanting without units", x.narrow(15), 0);
        x.pipe(0, 1, 1, 1);
        due("the exit is no wanting beginning", x.narrow(15), 0);

        check.says("while its end, at the tick in which the units come, is at most t and not wanting");
        for (int time = 1; time <= 4; time++) {
            PipeMoments y = Nets.line(20, 40, time, 1);
            due("its end is in the tick " + time, y.narrow(time), 1);
            due("its end is behind the tick", y.narrow(time - 1), 0);
        }
        PipeMoments z = Nets.chain(20, 40);
        for (int tick = 2; tick <= 10; tick++) {
            due("the end of the first one is wanting by " + tick, z.narrow(tick), 2);
        }
        due("all have come by 11", z.narrow(11), 0);
        z.widen(1, 9);
        due("the end of the first one is not", z.narrow(4), 1);
    }

    private NetSentencesTest() {
    }
}
