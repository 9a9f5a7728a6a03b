import java.util.function.Supplier;
import java.util.function.ToIntFunction;

/**
 * What the document's section "Changes and errors" says, sentence by sentence: the history and its
 * bound, which error comes first, and that calls with errors, as all questions, change nothing.
 */
public final class ChangeSentencesTest {
    private static final int INVALID = Nets.INVALID;
    private static final int NOT_POSSIBLE = Nets.NOT_POSSIBLE;
    private static final int LIMIT = Nets.LIMIT;
    private static final int NOT_FOUND = Nets.NOT_FOUND;
    private static final int STATES = 4;

    private static final Check check = new Check();

    public static void main(String[] args) {
        constants();
        changes();
        noChanges();
        fourStates();
        fifthState();
        anyNumberOfChanges();
        everythingButTheText();
        statesAfterUndo();
        invalidArgumentFirst();
        notPossibleBeforeLimit();
        noSuchPlaceOrPipe();
        errorsOfArguments();
        errorsOfTheState();
        questions();
        manyCalls();
        check.end();
    }

    private static void due(String call, int got, int want) {
        check.due(call, got, want);
    }

    /** Two places, a pipe that does not go to the exit, a history of three states, and a text with a fault. */
    private static PipeMoments some() {
        PipeMoments x = new PipeMoments();
        x.place(10, 40);
        x.place(5, 2);
        x.pipe(2, 1, 1, 4);
        Nets.write(x, "u1,4;u9,1;");
        return x;
    }

    private static PipeMoments fullText() {
        PipeMoments x = new PipeMoments();
        for (int sign = 0; sign < 60; sign++) {
            x.type("u0,1;".charAt(sign % 5));
        }
        return x;
    }

    private static void constants() {
        check.says("The constants");
        due("INVALID_ARGUMENT", PipeMoments.INVALID_ARGUMENT, -1000001);
        due("NOT_POSSIBLE", PipeMoments.NOT_POSSIBLE, -1000002);
        due("LIMIT_REACHED", PipeMoments.LIMIT_REACHED, -1000003);
        due("NOT_FOUND", PipeMoments.NOT_FOUND, -1000004);
    }

    // ---- the history

    private static void changes() {
        check.says("The changes are the calls of place, pipe, dropPipe, open, widen, units, room and play that return "
            + "no error.");
        isChange("place", Nets::longLine, x -> x.place(0, 0));
        isChange("pipe", Nets::longLine, x -> x.pipe(1, 2, 1, 1));
        isChange("dropPipe", Nets::longLine, x -> x.dropPipe(0));
        isChange("open", Nets::longLine, x -> x.open(0, 1, 2));
        isChange("widen", Nets::longLine, x -> x.widen(0, 1));
        isChange("units", Nets::longLine, x -> x.units(0, 1));
        isChange("room", Nets::longLine, x -> x.room(0, 1));
        isChange("play", Nets::longLine, x -> x.play());
        isChange("open as it is", Nets::longLine, x -> x.open(0, 0, 15));
        isChange("widen as it is", Nets::longLine, x -> x.widen(0, 3));
        isChange("units as they are", Nets::longLine, x -> x.units(1, 10));
        isChange("room as it is", Nets::longLine, x -> x.room(2, 2));
    }

    /** It leaves one state more, from which undo comes back to all that was before. */
    private static void isChange(String name, Supplier<PipeMoments> net, ToIntFunction<PipeMoments> change) {
        PipeMoments x = net.get();
        x.undo();
        String before = Nets.view(x);
        due(name + ": states before", x.count(4), 3);
        check.holds(name + " returns no error", change.applyAsInt(x) >= 0);
        due(name + ": states then", x.count(4), 4);
        due(name + ": undo()", x.undo(), 3);
        check.due(name + ": what is laid", Nets.view(x), before);
    }

    private static void noChanges() {
        check.says("The changes are the calls of place, pipe, dropPipe, open, widen, units, room and play");
        PipeMoments x = some();
        due("states", x.count(4), 3);
        due("type", x.type('u'), 11);
        due("states after type", x.count(4), 3);
        due("fault", x.fault(0), 5);
        due("states after fault", x.count(4), 3);
        due("clearText", x.clearText(), 11);
        due("states after clearText", x.count(4), 3);
        due("undo", x.undo(), 2);
        due("undo is no change", x.count(4), 2);
        due("undo goes on", x.undo(), 1);
    }

    private static void fourStates() {
        check.says("A history of at most 4 states is kept");
        PipeMoments x = new PipeMoments();
        due("at first", x.count(4), 0);
        for (int change = 1; change <= 9; change++) {
            x.units(0, change);
            due("after " + change + " changes", x.count(4), Math.min(change, STATES));
        }
        for (int left = 3; left >= 0; left--) {
            due("undo()", x.undo(), left);
            due("count(4)", x.count(4), left);
        }
        due("undo() of none", x.undo(), NOT_POSSIBLE);
        due("undo() of none again", x.undo(), NOT_POSSIBLE);
        due("count(4)", x.count(4), 0);

        check.says("NOT_POSSIBLE if it is empty");
        PipeMoments y = new PipeMoments();
        due("undo() of a new object", y.undo(), NOT_POSSIBLE);
        y.units(0, 21);
        due("undo() after an error", y.undo(), NOT_POSSIBLE);
        y.units(0, 20);
        due("undo() of one", y.undo(), 0);
        due("undo() of none", y.undo(), NOT_POSSIBLE);
    }

    private static void fifthState() {
        check.says("and if there are 5 states then, the oldest one is dropped");
        PipeMoments four = new PipeMoments();
        for (int units = 1; units <= 4; units++) {
            four.units(0, units);
        }
        for (int units = 3; units >= 0; units--) {
            four.undo();
            due("after 4 changes, back to", four.placeOf(0, 0), units);
        }
        PipeMoments five = new PipeMoments();
        for (int units = 1; units <= 5; units++) {
            five.units(0, units);
        }
        for (int units = 4; units >= 1; units--) {
            five.undo();
            due("after 5 changes, back to", five.placeOf(0, 0), units);
        }
        due("the state before the first one is dropped", five.undo(), NOT_POSSIBLE);
        due("and what is laid stays", five.placeOf(0, 0), 1);
    }

    private static void anyNumberOfChanges() {
        check.says("Restores the latest state of the history, which is removed from it.");
        for (int changes = 0; changes <= 12; changes++) {
            PipeMoments x = new PipeMoments();
            for (int units = 1; units <= changes; units++) {
                x.units(0, units);
            }
            for (int back = 1; back <= STATES; back++) {
                boolean kept = back <= changes;
                due(changes + " changes, undo " + back, x.undo(), kept ? Math.min(changes, STATES) - back : NOT_POSSIBLE);
                due(changes + " changes, back " + back, x.placeOf(0, 0), kept ? changes - back : 0);
            }
        }
    }

    private static void everythingButTheText() {
        check.says("each change records everything before it but the text");
        PipeMoments x = Nets.full();
        x.open(3, 4, 5);
        x.room(5, 17);
        String before = Nets.view(x);
        Nets.write(x, "h1,1;");
        x.dropPipe(0);
        x.type('u');
        x.open(0, 9, 3);
        x.units(5, 20);
        x.room(5, 0);
        for (int left = 3; left >= 0; left--) {
            due("undo()", x.undo(), left);
        }
        due("the text as it is now", x.count(5), 6);
        due("its fault", x.fault(0), 0);
        due("its reason: there are six places", x.fault(1), 3);
        due("clearText()", x.clearText(), 6);
        check.due("all but the history", Nets.view(x), before.replaceFirst("4 0 ", "0 0 "));
    }

    private static void statesAfterUndo() {
        check.says("Restores the latest state of the history");
        PipeMoments x = new PipeMoments();
        for (int units = 1; units <= 6; units++) {
            x.units(0, units);
        }
        x.undo();
        x.undo();
        due("two are left", x.count(4), 2);
        for (int units = 11; units <= 13; units++) {
            x.units(0, units);
        }
        due("four again", x.count(4), 4);
        int[] back = {12, 11, 4, 3};
        for (int units : back) {
            x.undo();
            due("back to", x.placeOf(0, 0), units);
        }
        due("none is left", x.undo(), NOT_POSSIBLE);
    }

    // ---- which error comes first

    private static void invalidArgumentFirst() {
        check.says("If several errors apply to a call, INVALID_ARGUMENT is returned rather than NOT_POSSIBLE");
        PipeMoments full = Nets.full();
        due("place(0, 0)", full.place(0, 0), LIMIT);
        due("place(20, 40)", full.place(20, 40), LIMIT);
        int[][] places = {{-1, 0}, {21, 0}, {0, -1}, {0, 41}};
        for (int[] n : places) {
            due("the seventh place of " + n[0] + ", " + n[1], full.place(n[0], n[1]), INVALID);
        }
        due("pipe(5, 0, 4, 9)", full.pipe(5, 0, 4, 9), LIMIT);
        int[][] pipes = {{-1, 0, 1, 1}, {6, 0, 1, 1}, {1, -1, 1, 1}, {1, 6, 1, 1}, {1, 1, 1, 1}, {0, 0, 1, 1},
            {1, 0, 0, 1}, {1, 0, 5, 1}, {1, 0, 1, 0}, {1, 0, 1, 10}};
        for (int[] n : pipes) {
            due("the eleventh pipe of " + n[0] + ", " + n[1] + ", " + n[2] + ", " + n[3],
                full.pipe(n[0], n[1], n[2], n[3]), INVALID);
        }
        PipeMoments text = fullText();
        due("type(32)", text.type(32), LIMIT);
        due("type(126)", text.type(126), LIMIT);
        due("type(31)", text.type(31), INVALID);
        due("type(127)", text.type(127), INVALID);
        PipeMoments none = new PipeMoments();
        due("placeOf(1, 4)", none.placeOf(1, 4), INVALID);
        due("earliest(121)", none.earliest(121), INVALID);
        due("earliest(120)", none.earliest(120), NOT_FOUND);
        due("dearest(16, 0)", none.dearest(16, 0), INVALID);
        due("dearest(-1, 0)", none.dearest(-1, 0), INVALID);
        due("dearest(0, 2)", none.dearest(0, 2), INVALID);
        due("dearest(0, -1)", none.dearest(0, -1), INVALID);
        due("dearest(0, 1)", none.dearest(0, 1), NOT_FOUND);
        due("helpful(16, 0)", none.helpful(16, 0), INVALID);
        due("helpful(-1, 0)", none.helpful(-1, 0), INVALID);
        due("helpful(0, 2)", none.helpful(0, 2), INVALID);
        due("helpful(0, -1)", none.helpful(0, -1), INVALID);
        due("helpful(0, 1)", none.helpful(0, 1), NOT_FOUND);
        due("fault(3)", none.fault(3), INVALID);
        due("fault(-1)", none.fault(-1), INVALID);
        due("fault(2)", none.fault(2), NOT_FOUND);
    }

    private static void notPossibleBeforeLimit() {
        check.says("NOT_POSSIBLE rather than LIMIT_REACHED");
        PipeMoments x = Nets.full();
        Nets.write(x, "h0,0;");
        due("fault(1)", x.fault(1), 3);
        due("play() of a seventh place", x.play(), NOT_POSSIBLE);
        Nets.write(x, "p1,0,1,1;");
        due("play() of an eleventh pipe", x.play(), NOT_POSSIBLE);
        Nets.write(x, "p6,0,1,1;");
        due("play() of a place that is not there", x.play(), NOT_POSSIBLE);
    }

    private static void noSuchPlaceOrPipe() {
        check.says("If there is no place or pipe with a certain number, this is INVALID_ARGUMENT.");
        PipeMoments x = Nets.longLine();
        PipeMoments none = new PipeMoments();
        int[] noPlaces = {-1, 3, 5, 6};
        for (int place : noPlaces) {
            due("pipe from " + place, x.pipe(place, 0, 1, 1), INVALID);
            due("pipe to " + place, x.pipe(1, place, 1, 1), INVALID);
            due("units of " + place, x.units(place, 0), INVALID);
            due("room of " + place, x.room(place, 0), INVALID);
            for (int what = 0; what <= 4; what++) {
                due("placeOf(" + place + ", " + what + ")", x.placeOf(place, what), INVALID);
            }
            due("repeated of " + place, x.repeated(place, 1), INVALID);
            due("wanting of " + place, x.wanting(1, place, 0), INVALID);
            due("withOneMore of " + place, x.withOneMore(1, place), INVALID);
        }
        int[] noPipes = {-1, 2, 9, 10};
        for (int pipe : noPipes) {
            due("dropPipe(" + pipe + ")", x.dropPipe(pipe), INVALID);
            due("open of " + pipe, x.open(pipe, 0, 0), INVALID);
            due("widen of " + pipe, x.widen(pipe, 1), INVALID);
            for (int what = 0; what <= 5; what++) {
                due("pipeOf(" + pipe + ", " + what + ")", x.pipeOf(pipe, what), INVALID);
            }
        }
        due("dropPipe(0) of none", none.dropPipe(0), INVALID);
        due("open(0, 0, 0) of none", none.open(0, 0, 0), INVALID);
        due("widen(0, 1) of none", none.widen(0, 1), INVALID);
        due("pipeOf(0, 0) of none", none.pipeOf(0, 0), INVALID);
        x.dropPipe(1);
        due("widen(1, 1) of a dropped one", x.widen(1, 1), INVALID);
        x.undo();
        due("widen(1, 1) of one that is there again", x.widen(1, 1), 4);
        none.place(0, 0);
        none.undo();
        due("units(1, 0) of one that is no longer there", none.units(1, 0), INVALID);
    }

    // ---- A call that returns an error changes nothing

    /** All that an object tells of what it holds, its history and what it held in each of its states. */
    private static String everything(PipeMoments x) {
        StringBuilder all = new StringBuilder(Nets.view(x));
        for (int state = 0; state <= STATES; state++) {
            all.append(" <- ").append(x.undo()).append(": ").append(Nets.view(x));
        }
        return all.toString();
    }

    private static void changesNothing(
            String name, Supplier<PipeMoments> net, ToIntFunction<PipeMoments> call, int want) {
        PipeMoments x = net.get();
        due(name, call.applyAsInt(x), want);
        check.due("everything after " + name, everything(x), everything(net.get()));
    }

    private static void wrongInEachNet(String name, ToIntFunction<PipeMoments> call) {
        changesNothing(name + " of a new object", PipeMoments::new, call, INVALID);
        changesNothing(name + " of some net", ChangeSentencesTest::some, call, INVALID);
        changesNothing(name + " of a full net", Nets::full, call, INVALID);
        changesNothing(name + " with a full text", ChangeSentencesTest::fullText, call, INVALID);
    }

    private static void errorsOfArguments() {
        check.says("A call that returns an error changes nothing.");
        int[] beside = {-1, 100};
        for (int n : beside) {
            wrongInEachNet("place, units " + n, x -> x.place(n, 0));
            wrongInEachNet("place, room " + n, x -> x.place(0, n));
            wrongInEachNet("pipe, from " + n, x -> x.pipe(n, 0, 1, 1));
            wrongInEachNet("pipe, to " + n, x -> x.pipe(0, n, 1, 1));
            wrongInEachNet("pipe, time " + n, x -> x.pipe(1, 0, n, 1));
            wrongInEachNet("pipe, bound " + n, x -> x.pipe(1, 0, 1, n));
            wrongInEachNet("dropPipe, pipe " + n, x -> x.dropPipe(n));
            wrongInEachNet("open, pipe " + n, x -> x.open(n, 1, 2));
            wrongInEachNet("open, first " + n, x -> x.open(0, n, 2));
            wrongInEachNet("open, last " + n, x -> x.open(0, 1, n));
            wrongInEachNet("widen, pipe " + n, x -> x.widen(n, 9));
            wrongInEachNet("widen, bound " + n, x -> x.widen(0, n));
            wrongInEachNet("units, place " + n, x -> x.units(n, 9));
            wrongInEachNet("units, units " + n, x -> x.units(0, n));
            wrongInEachNet("room, place " + n, x -> x.room(n, 9));
            wrongInEachNet("room, room " + n, x -> x.room(0, n));
            wrongInEachNet("pipeOf, pipe " + n, x -> x.pipeOf(n, 0));
            wrongInEachNet("pipeOf, what " + n, x -> x.pipeOf(0, n));
            wrongInEachNet("placeOf, place " + n, x -> x.placeOf(n, 4));
            wrongInEachNet("placeOf, what " + n, x -> x.placeOf(0, n));
            wrongInEachNet("come, tick " + n, x -> x.come(n));
            wrongInEachNet("repeated, place " + n, x -> x.repeated(n, 9));
            wrongInEachNet("repeated, tick " + n, x -> x.repeated(1, n));
            wrongInEachNet("narrow, tick " + n, x -> x.narrow(n));
            wrongInEachNet("wanting, tick " + n, x -> x.wanting(n, 0, 0));
            wrongInEachNet("wanting, place " + n, x -> x.wanting(9, n, 0));
            wrongInEachNet("wanting, at " + n, x -> x.wanting(9, 0, n));
            wrongInEachNet("dearest, tick " + n, x -> x.dearest(n, 0));
            wrongInEachNet("dearest, what " + n, x -> x.dearest(9, n));
            wrongInEachNet("helpful, tick " + n, x -> x.helpful(n, 0));
            wrongInEachNet("helpful, what " + n, x -> x.helpful(9, n));
            wrongInEachNet("withOneMore, tick " + n, x -> x.withOneMore(n, 0));
            wrongInEachNet("withOneMore, place " + n, x -> x.withOneMore(9, n));
            wrongInEachNet("count, what " + n, x -> x.count(n));
            wrongInEachNet("fault, what " + n, x -> x.fault(n));
        }
        wrongInEachNet("pipe to the same place", x -> x.pipe(0, 0, 1, 1));
        wrongInEachNet("earliest(-2)", x -> x.earliest(-2));
        wrongInEachNet("earliest(121)", x -> x.earliest(121));
        wrongInEachNet("repeated(0, 9)", x -> x.repeated(0, 9));
        wrongInEachNet("type(31)", x -> x.type(31));
        wrongInEachNet("type(127)", x -> x.type(127));
    }

    private static void errorsOfTheState() {
        check.under("NOT_POSSIBLE: A call that returns an error changes nothing.");
        changesNothing("undo of an empty history", PipeMoments::new, x -> x.undo(), NOT_POSSIBLE);
        changesNothing("play of a text with a fault", ChangeSentencesTest::some, x -> x.play(), NOT_POSSIBLE);
        String[] texts = {"h1,1;h1,1", "u1,4;u1,5;u1,21;", "p1,0,1,1;o2,3,4;h1,1;x", "h1,1;h1,1;h1,1;h1,1;"};
        for (String text : texts) {
            changesNothing("play of " + text, () -> {
                PipeMoments x = Nets.longLine();
                Nets.write(x, text);
                return x;
            }, x -> x.play(), NOT_POSSIBLE);
        }

        check.under("LIMIT_REACHED: A call that returns an error changes nothing.");
        changesNothing("a seventh place", Nets::full, x -> x.place(1, 1), LIMIT);
        changesNothing("an eleventh pipe", Nets::full, x -> x.pipe(1, 0, 1, 1), LIMIT);
        changesNothing("a 61st character", ChangeSentencesTest::fullText, x -> x.type('x'), LIMIT);

        check.under("NOT_FOUND: A call that returns an error changes nothing.");
        changesNothing("earliest(120)", Nets::full, x -> x.earliest(120), NOT_FOUND);
        changesNothing("placeOf(1, 4) without a way", ChangeSentencesTest::some, x -> x.placeOf(1, 4), NOT_FOUND);
        changesNothing("dearest(9, 0) of none", PipeMoments::new, x -> x.dearest(9, 0), NOT_FOUND);
        changesNothing("helpful(9, 0) of none", PipeMoments::new, x -> x.helpful(9, 0), NOT_FOUND);
        changesNothing("helpful(9, 0) where none helps", ChangeSentencesTest::some, x -> x.helpful(9, 0), NOT_FOUND);
        changesNothing("fault(0) of none", ChangeSentencesTest::fullText, x -> x.fault(0), NOT_FOUND);
    }

    private static void questions() {
        check.says("Nothing is promised beyond the answers and state changes described above");
        changesNothing("come", Nets::full, x -> x.come(15), Nets.full().come(15));
        changesNothing("earliest", Nets::longLine, x -> x.earliest(-1), 6);
        changesNothing("repeated", Nets::longLine, x -> x.repeated(1, 5), 12);
        changesNothing("narrow", Nets::longLine, x -> x.narrow(5), 1);
        changesNothing("wanting", Nets::longLine, x -> x.wanting(5, 1, 0), 1);
        changesNothing("dearest", Nets::longLine, x -> x.dearest(5, 1), 0);
        changesNothing("helpful", Nets::longLine, x -> x.helpful(4, 1), 3);
        changesNothing("withOneMore", Nets::longLine, x -> x.withOneMore(15, 2), 16);
        changesNothing("placeOf", Nets::longLine, x -> x.placeOf(2, 4), 3);
        changesNothing("fault", ChangeSentencesTest::some, x -> x.fault(0), 5);
    }

    private static void manyCalls() {
        check.says("An object is used for at most 512 calls after it has been made");
        PipeMoments x = new PipeMoments();
        for (int call = 1; call <= 512; call++) {
            due("call " + call, x.units(0, call % 21), (call - 1) % 21);
        }
        PipeMoments y = new PipeMoments();
        for (int call = 1; call <= 511; call++) {
            y.type('x');
        }
        due("the last call", y.count(5), 60);
        PipeMoments z = Nets.full();
        int most = z.come(15);
        for (int call = 17; call <= 512; call++) {
            due("call " + call, z.come(15), most);
        }
    }

    private ChangeSentencesTest() {
    }
}
