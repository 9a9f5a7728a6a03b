/**
 * What the promises themselves say of boundaries, beside the ranges of their arguments: least and
 * greatest answers, what holds of the exit, of several, of none, and by the tick 15.
 */
public final class PromiseSentencesTest {
    private static final int INVALID = Nets.INVALID;
    private static final int NOT_FOUND = Nets.NOT_FOUND;
    private static final int LAST_TICK = 15;

    private static final Check check = new Check();

    public static void main(String[] args) {
        newObject();
        dropPipe();
        open();
        whatItWas();
        roomOfTheExit();
        setsOfPipes();
        leastTick();
        leastTickAlone();
        leastTickByTheLastTick();
        comeByEachTick();
        earliestOfSoMany();
        earliestByTheLastTick();
        dearestOfNone();
        dearestOfSeveral();
        helpfulOfNone();
        helpfulOfSeveral();
        helpfulAboveNine();
        withOneMore();
        leastAndGreatestCounts();
        lengthsOfTheText();
        check.end();
    }

    private static void due(String call, int got, int want) {
        check.due(call, got, want);
    }

    /** So many places beside the exit, without units and with room for all. */
    private static PipeMoments places(int places) {
        PipeMoments x = new PipeMoments();
        for (int place = 1; place <= places; place++) {
            x.place(0, 40);
        }
        return x;
    }

    private static void newObject() {
        check.says("Creates the exit alone.");
        PipeMoments x = new PipeMoments();
        int[] counts = {1, 0, 0, 0, 0, 0};
        for (int what = 0; what < counts.length; what++) {
            due("count(" + what + ")", x.count(what), counts[what]);
        }
        int[] parts = {0, 40, 0, 0, 0};
        for (int what = 0; what < parts.length; what++) {
            due("placeOf(0, " + what + ")", x.placeOf(0, what), parts[what]);
        }
        due("there is no place 1", x.placeOf(1, 0), INVALID);
        due("there is no pipe 0", x.pipeOf(0, 0), INVALID);
        PipeMoments other = new PipeMoments();
        other.place(1, 1);
        due("one object does not know of the other", x.count(0), 1);
    }

    private static void dropPipe() {
        check.says("Returns how many there are then");
        PipeMoments x = Nets.full();
        for (int left = 9; left >= 0; left--) {
            due("the first of " + (left + 1), x.dropPipe(0), left);
        }
        due("none is left to drop", x.dropPipe(0), INVALID);
        PipeMoments y = Nets.full();
        for (int left = 9; left >= 0; left--) {
            due("the last of " + (left + 1), y.dropPipe(left), left);
        }
        due("count(1)", y.count(1), 0);
        due("a pipe is the first one again", y.pipe(1, 0, 1, 1), 0);
    }

    private static void open() {
        check.says("Returns in how many ticks it is open then");
        for (int first = 0; first <= LAST_TICK; first++) {
            PipeMoments x = Nets.line(20, 40, 1, 1);
            for (int last = 0; last <= LAST_TICK; last++) {
                int ticks = last < first ? 0 : last - first + 1;
                due("open(0, " + first + ", " + last + ")", x.open(0, first, last), ticks);
                // who enters in the tick 15 comes too late
                due("so many come", x.come(15), last == LAST_TICK ? ticks - 1 : ticks);
            }
        }
    }

    private static void whatItWas() {
        check.says("Returns what it was");
        PipeMoments x = Nets.line(20, 40, 1, 9);
        due("the greatest bound", x.widen(0, 1), 9);
        due("the least bound", x.widen(0, 9), 1);
        due("the greatest room", x.room(1, 0), 40);
        due("the least room", x.room(1, 40), 0);

        check.says("Returns what they were");
        due("the most units", x.units(1, 0), 20);
        due("no units", x.units(1, 20), 0);
        due("the exit's units at first", x.units(0, 20), 0);
        due("the exit's units", x.units(0, 0), 20);
    }

    private static void roomOfTheExit() {
        check.says("(that of the exit does not matter)");
        PipeMoments x = Nets.line(20, 40, 1, 9);
        x.units(0, 20);
        String before = answers(x);
        int[] rooms = {0, 1, 20, 39};
        for (int room : rooms) {
            x.room(0, room);
            check.due("all answers with the room " + room, answers(x), before);
            due("it is told all the same", x.placeOf(0, 1), room);
        }
    }

    private static String answers(PipeMoments x) {
        StringBuilder answers = new StringBuilder();
        for (int tick = 0; tick <= 4; tick++) {
            answers.append(x.come(tick)).append(' ').append(x.narrow(tick)).append(' ').append(x.repeated(1, tick));
            answers.append(' ').append(x.dearest(tick, 1)).append(' ').append(x.helpful(tick, 1)).append(' ');
            answers.append(x.withOneMore(tick, 0)).append(' ').append(x.withOneMore(tick, 1)).append(' ');
        }
        answers.append(x.earliest(-1)).append(' ').append(x.placeOf(0, 4)).append(' ').append(x.placeOf(1, 4));
        return answers.toString();
    }

    private static void setsOfPipes() {
        check.says("2: pipes that go from it, as a set; 3: pipes that go to it, as a set");
        PipeMoments x = new PipeMoments();
        x.place(0, 0);
        due("none from it", x.placeOf(1, 2), 0);
        due("none to it", x.placeOf(1, 3), 0);
        for (int pipe = 0; pipe < 10; pipe++) {
            x.pipe(1, 0, 1, 1);
        }
        due("all from it", x.placeOf(1, 2), 1023);
        due("none to it", x.placeOf(1, 3), 0);
        due("all to the exit", x.placeOf(0, 3), 1023);
        due("none from the exit", x.placeOf(0, 2), 0);
        x.dropPipe(0);
        due("nine from it", x.placeOf(1, 2), 511);
        x.pipe(0, 1, 1, 1);
        due("the last one to it", x.placeOf(1, 3), 512);
        due("the last one from the exit", x.placeOf(0, 2), 512);
        x.open(0, 1, 0);
        due("also one that is never open", x.placeOf(1, 2), 511);
    }

    private static void leastTick() {
        check.says("4: the least tick in which a unit that is there in the tick 0 could come to the exit");
        PipeMoments x = places(5);
        x.pipe(5, 4, 3, 1);
        x.pipe(4, 3, 3, 1);
        x.pipe(3, 2, 3, 1);
        x.pipe(2, 1, 3, 1);
        x.pipe(1, 0, 3, 1);
        for (int place = 1; place <= 5; place++) {
            due("from " + place, x.placeOf(place, 4), 3 * place);
        }
        x.pipe(5, 0, 4, 9);
        due("a shorter way", x.placeOf(5, 4), 4);
        x.pipe(1, 5, 1, 9);
        due("not a longer one", x.placeOf(1, 4), 3);
        due("none of 0 units, but it could", x.placeOf(4, 4), 12);

        check.says("0 for the exit");
        due("the exit", x.placeOf(0, 4), 0);
        x.units(0, 20);
        due("the exit with units", x.placeOf(0, 4), 0);
        due("the exit alone", new PipeMoments().placeOf(0, 4), 0);
    }

    private static void leastTickAlone() {
        check.says("if it was alone");
        PipeMoments x = Nets.line(20, 0, 1, 1);
        x.place(20, 0);
        x.pipe(2, 1, 1, 1);
        due("from 2 past those of 1", x.placeOf(2, 4), 2);
        due("from 1", x.placeOf(1, 4), 1);
        x.units(1, 0);
        due("from 1 without units", x.placeOf(1, 4), 1);

        check.says("(it can wait where there is room for one)");
        x.open(0, 2, 2);
        due("it can wait in neither", x.placeOf(2, 4), NOT_FOUND);
        x.room(1, 1);
        due("it can wait in 1", x.placeOf(2, 4), 3);
        x.room(1, 0);
        x.room(2, 1);
        due("it can wait in 2", x.placeOf(2, 4), 3);
        due("it can't wait in 1", x.placeOf(1, 4), NOT_FOUND);
    }

    private static void leastTickByTheLastTick() {
        check.says("NOT_FOUND for 4 if it cannot come there by the tick 15");
        for (int time = 1; time <= 4; time++) {
            PipeMoments x = Nets.line(0, 1, time, 1);
            x.open(0, LAST_TICK - time, LAST_TICK);
            due("in the tick 15, of time " + time, x.placeOf(1, 4), 15);
            x.open(0, LAST_TICK - time + 1, LAST_TICK);
            due("in the tick 16, of time " + time, x.placeOf(1, 4), NOT_FOUND);
        }
        PipeMoments y = places(5);
        y.pipe(5, 4, 4, 1);
        y.pipe(4, 3, 4, 1);
        y.pipe(3, 2, 4, 1);
        y.pipe(2, 1, 3, 1);
        due("it comes nowhere", y.placeOf(5, 4), NOT_FOUND);
        y.pipe(1, 0, 1, 1);
        due("from 5 it would be 16", y.placeOf(5, 4), NOT_FOUND);
        due("from 4", y.placeOf(4, 4), 12);
        y.dropPipe(0);
        y.pipe(5, 4, 3, 1);
        due("from 5 it is 15", y.placeOf(5, 4), 15);
    }

    private static void comeByEachTick() {
        check.says("Tells how many units can have come by a tick.");
        PipeMoments x = Nets.line(20, 40, 4, 9);
        int[] dueBy = {0, 0, 0, 0, 9, 18, 20};
        for (int tick = 0; tick <= LAST_TICK; tick++) {
            due("come(" + tick + ")", x.come(tick), dueBy[Math.min(tick, 6)]);
        }
        due("come(-1)", x.come(-1), INVALID);
        due("come(16)", x.come(16), INVALID);
    }

    private static void earliestOfSoMany() {
        check.says("0 to 120, or -1 for all");
        PipeMoments x = new PipeMoments();
        due("all of none", x.earliest(-1), 0);
        due("none of none", x.earliest(0), 0);
        due("one of none", x.earliest(1), NOT_FOUND);
        x.units(0, 20);
        for (int place = 1; place <= 5; place++) {
            x.place(20, 40);
            x.pipe(place, 0, 1, 9);
            x.pipe(place, 0, 1, 9);
        }
        due("none", x.earliest(0), 0);
        due("those of the exit", x.earliest(20), 0);
        due("one more", x.earliest(21), 1);
        due("all but ten", x.earliest(110), 1);
        due("all but nine", x.earliest(111), 2);
        due("all 120", x.earliest(120), 2);
        due("all", x.earliest(-1), 2);
        due("121", x.earliest(121), INVALID);
        due("-2", x.earliest(-2), INVALID);
        x.units(5, 19);
        due("one more than there are", x.earliest(120), NOT_FOUND);
        due("all 119", x.earliest(119), 2);
        due("all that there are", x.earliest(-1), 2);
        x.units(5, 18);
        due("all 118 but one", x.earliest(117), 2);
        for (int place = 1; place <= 5; place++) {
            x.units(place, 0);
        }
        due("all are there", x.earliest(-1), 0);
    }

    private static void earliestByTheLastTick() {
        check.says("NOT_FOUND if it is not so by the tick 15");
        PipeMoments x = Nets.line(20, 40, 1, 1);
        due("the 15th", x.earliest(15), 15);
        due("the 16th", x.earliest(16), NOT_FOUND);
        due("all", x.earliest(-1), NOT_FOUND);
        x.units(1, 15);
        due("all 15", x.earliest(-1), 15);
        x.units(1, 16);
        due("all 16", x.earliest(-1), NOT_FOUND);
        x.room(1, 14);
        due("what has no room can't come", x.earliest(16), NOT_FOUND);
        due("the 15th with its room", x.earliest(15), 15);
        x.room(1, 13);
        due("the 15th without its room", x.earliest(15), NOT_FOUND);
        due("the 14th", x.earliest(14), 14);
    }

    private static void dearestOfNone() {
        check.says("NOT_FOUND if there is no pipe");
        PipeMoments x = new PipeMoments();
        for (int what = 0; what <= 1; what++) {
            due("dearest(0, " + what + ")", x.dearest(0, what), NOT_FOUND);
            due("dearest(15, " + what + ")", x.dearest(15, what), NOT_FOUND);
        }
        x.units(0, 5);
        x.place(5, 5);
        due("with units at the exit", x.dearest(15, 1), NOT_FOUND);
        x.pipe(0, 1, 1, 1);
        due("one that carries nothing is the dearest", x.dearest(15, 0), 0);
        due("without it all is as before", x.dearest(15, 1), 5);
        x.dropPipe(0);
        due("none again", x.dearest(15, 0), NOT_FOUND);
        x.undo();
        due("one again", x.dearest(15, 0), 0);
    }

    private static void dearestOfSeveral() {
        check.says("0: the pipe, of several the lowest; 1: how many units could have come then");
        PipeMoments x = new PipeMoments();
        x.place(20, 0);
        for (int pipe = 0; pipe < 10; pipe++) {
            x.pipe(1, 0, 1, 2);
        }
        due("all the same", x.dearest(1, 0), 0);
        due("without one of the same", x.dearest(1, 1), 18);
        x.widen(0, 1);
        due("the first one is less", x.dearest(1, 0), 1);
        due("without the second one", x.dearest(1, 1), 17);
        x.widen(9, 9);
        due("the last one", x.dearest(1, 0), 9);
        due("without the last one", x.dearest(1, 1), 17);
        x.widen(8, 9);
        due("the last one but one, as the last", x.dearest(1, 0), 0);
        due("none is missed", x.dearest(1, 1), 20);
        due("before any has come", x.dearest(0, 0), 0);
        due("before any has come, how many", x.dearest(0, 1), 0);
    }

    private static void helpfulOfNone() {
        check.says("NOT_FOUND if no pipe helps");
        for (int what = 0; what <= 1; what++) {
            due("no pipe", new PipeMoments().helpful(15, what), NOT_FOUND);
            due("too early", Nets.line().helpful(1, what), NOT_FOUND);
            due("in time", Nets.line().helpful(2, what), what);
            due("one unit is left", Nets.line().helpful(4, what), what);
            due("all have come", Nets.line().helpful(5, what), NOT_FOUND);
            due("no unit", Nets.line(0, 40, 1, 1).helpful(15, what), NOT_FOUND);
        }
        PipeMoments x = Nets.line(9, 40, 1, 1);
        x.open(0, 1, 0);
        due("never open", x.helpful(15, 0), NOT_FOUND);
        x.open(0, 15, 15);
        due("open too late", x.helpful(15, 0), NOT_FOUND);
        x.open(0, 14, 14);
        due("just open", x.helpful(15, 0), 0);
        // both would have to be wider
        PipeMoments y = Nets.chain(20, 40);
        y.widen(0, 2);
        due("neither helps alone", y.helpful(5, 0), NOT_FOUND);
    }

    private static void helpfulOfSeveral() {
        check.says("0: the pipe, of several the lowest; 1: how many more");
        PipeMoments x = new PipeMoments();
        x.place(20, 40);
        for (int pipe = 0; pipe < 10; pipe++) {
            x.pipe(1, 0, 1, 1);
        }
        due("all the same", x.helpful(1, 0), 0);
        due("one more", x.helpful(1, 1), 1);
        x.open(0, 9, 15);
        due("the second one", x.helpful(1, 0), 1);
        for (int pipe = 0; pipe < 9; pipe++) {
            x.open(pipe, 1, 1);
        }
        due("the last one", x.helpful(1, 0), 9);
        due("the last one in two ticks", x.helpful(2, 0), 9);
        due("two more", x.helpful(2, 1), 2);
    }

    private static void helpfulAboveNine() {
        check.says("(also above 9)");
        PipeMoments x = Nets.line(20, 0, 1, 9);
        due("a tenth one", x.helpful(1, 0), 0);
        due("one more", x.helpful(1, 1), 1);
        x.room(1, 40);
        due("two more by the tick 2", x.helpful(2, 1), 2);
        due("none more by the tick 3", x.helpful(3, 1), NOT_FOUND);
        due("the bound stays", x.pipeOf(0, 3), 9);
    }

    private static void withOneMore() {
        check.says("(also above 20)");
        PipeMoments x = Nets.line(20, 40, 1, 9);
        x.units(0, 20);
        due("21 of the place", x.withOneMore(15, 1), 41);
        due("21 of the exit", x.withOneMore(15, 0), 41);
        due("21 of the exit at once", x.withOneMore(0, 0), 21);
        due("the place's do not come at once", x.withOneMore(0, 1), 20);
        due("the units stay", x.count(2), 40);
        due("by 2 no more can come", x.withOneMore(2, 1), 38);
        x.room(1, 11);
        due("the place has no room for one more", x.withOneMore(15, 1), 40);
        due("a place without units", places(1).withOneMore(15, 1), 0);
    }

    private static void leastAndGreatestCounts() {
        check.says("0: places; 1: pipes; 2: units of all places; 3: the bounds of all pipes together");
        PipeMoments x = new PipeMoments();
        int[] least = {1, 0, 0, 0};
        for (int what = 0; what < 4; what++) {
            due("the least count(" + what + ")", x.count(what), least[what]);
        }
        x.units(0, 20);
        for (int place = 1; place <= 5; place++) {
            x.place(20, 0);
            due("units of " + place + " places", x.count(2), 20 * (place + 1));
        }
        for (int pipe = 1; pipe <= 10; pipe++) {
            x.pipe(1, 0, 1, 9);
            due("bounds of " + pipe + " pipes", x.count(3), 9 * pipe);
        }
        int[] greatest = {6, 10, 120, 90};
        for (int what = 0; what < 4; what++) {
            due("the greatest count(" + what + ")", x.count(what), greatest[what]);
        }
        x.dropPipe(9);
        due("bounds of the others", x.count(3), 81);
        x.open(0, 1, 0);
        due("also of one that is never open", x.count(3), 81);

        check.says("4: states in the history; 5: the length of the text");
        due("the greatest count(4)", x.count(4), 4);
        for (int length = 1; length <= 61; length++) {
            x.type(126);
            due("count(5)", x.count(5), Math.min(length, 60));
        }
    }

    private static void lengthsOfTheText() {
        check.says("Returns the length it had.");
        int[] lengths = {0, 1, 59, 60, 61};
        for (int length : lengths) {
            PipeMoments x = new PipeMoments();
            for (int sign = 0; sign < length; sign++) {
                x.type(' ');
            }
            due("clearText() of " + length, x.clearText(), Math.min(length, 60));
            due("clearText() again", x.clearText(), 0);
            due("count(5)", x.count(5), 0);
        }
    }

    private PromiseSentencesTest() {
    }
}
