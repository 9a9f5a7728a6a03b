/**
 * The document's sentences that name no boundary, from its first line to its last: most of them say what
 * another call would say too, or what the same call would say when something is done.
 */
public final class LastSentencesTest {
    private static final int NOT_POSSIBLE = Nets.NOT_POSSIBLE;
    private static final int LIMIT = Nets.LIMIT;
    private static final int NOT_FOUND = Nets.NOT_FOUND;
    private static final int LAST_TICK = 15;
    private static final int NETS = 5;

    private static final Check check = new Check();

    public static void main(String[] args) {
        whatItIs();
        setsAreBits();
        itsOwnInTheFirstTick();
        noUnitIsLost();
        couldComeFromIt();
        meaningsOfTheErrors();
        numbersOfPlacesAndPipes();
        whatIsSet();
        earliestIsTheLeastTick();
        narrowIsASet();
        oneIfItIs();
        dearestIsWithoutOne();
        helpfulIsWithAWiderOne();
        withOneMoreIsWithItsUnits();
        statesThatAreLeft();
        texts();
        check.end();
    }

    private static void due(String call, int got, int want) {
        check.due(call, got, want);
    }

    /** Nets of several kinds: waiting rooms, openings, several ways, and as much as there can be. */
    private static PipeMoments net(int kind) {
        switch (kind) {
            case 0:
                return Nets.longLine();
            case 1:
                return Nets.chain(17, 2);
            case 2:
                return Nets.full();
            case 3:
                return wideNet();
            default:
                PipeMoments x = wideNet();
                x.open(2, 2, 6);
                x.open(6, 3, 9);
                x.units(0, 3);
                return x;
        }
    }

    private static PipeMoments wideNet() {
        PipeMoments x = new PipeMoments();
        x.place(18, 3);
        x.place(2, 1);
        x.place(9, 40);
        x.place(0, 0);
        x.pipe(1, 2, 1, 4);
        x.pipe(1, 4, 2, 3);
        x.pipe(2, 0, 2, 3);
        x.pipe(3, 2, 1, 2);
        x.pipe(3, 4, 3, 2);
        x.pipe(4, 2, 1, 5);
        x.pipe(4, 0, 1, 2);
        x.pipe(2, 3, 1, 8);
        return x;
    }

    /** One story through all that the first sentence names. */
    private static void whatItIs() {
        check.says("Streams through pipes that take time: places with units that are to come to an exit");
        PipeMoments x = Nets.longLine();
        due("how many units can have come", x.come(4), 9);
        due("the least tick by which all can be there", x.earliest(-1), 6);
        due("plans that are repeated", x.repeated(2, 6), 12);
        due("the narrow places", x.narrow(4), 1);
        due("a pipe without which it would take longest", x.dearest(6, 0), 0);
        due("a wider pipe that helps most", x.helpful(4, 0), 0);
        due("widen(0, 4)", x.widen(0, 4), 3);
        due("it helped", x.come(4), 12);
        Nets.write(x, "h9,0;p3,1,1,9;p3,3,1,1;");
        due("the place of the fault", x.fault(0), 14);
        due("its reason", x.fault(1), 2);
        due("its cause", x.fault(2), 1);
    }

    private static void setsAreBits() {
        check.says("Sets are told as bits: bit k is for number k.");
        for (int open = 0; open < 10; open++) {
            PipeMoments x = new PipeMoments();
            x.place(20, 0);
            for (int pipe = 0; pipe < 10; pipe++) {
                x.pipe(1, 0, 1, 1);
            }
            due("all are narrow", x.narrow(1), (1 << 10) - 1);
            for (int pipe = 0; pipe < 10; pipe++) {
                x.open(pipe, 1, pipe == open ? 15 : 0);
            }
            x.room(1, 19);
            due("the pipe " + open + " alone is narrow", x.narrow(2), 1 << open);
        }
    }

    private static void itsOwnInTheFirstTick() {
        check.says("(in the tick 0 its own)");
        for (int units = 0; units <= 20; units++) {
            PipeMoments x = Nets.line(units, 0, 1, 9);
            due(units + " units", x.come(1), Math.min(units, 9));
            due(units + " units, of which none waits", x.come(LAST_TICK), Math.min(units, 9));
        }
    }

    private static void noUnitIsLost() {
        check.says("In a plan no unit is lost");
        for (int kind = 0; kind < NETS; kind++) {
            PipeMoments x = net(kind);
            int before = 0;
            for (int tick = 0; tick <= LAST_TICK; tick++) {
                int come = x.come(tick);
                check.holds("what has come stays, by " + tick, come >= before && come <= x.count(2));
                before = come;
            }
        }
    }

    private static void couldComeFromIt() {
        check.says("the greatest number of units that could come from it to the exit by t");
        PipeMoments x = wideNet();
        // through the pipe 2 three in each tick, which take 2 ticks; by the places 3 and 4 two, which take 5
        for (int tick = 0; tick <= LAST_TICK; tick++) {
            int due = 3 * Math.max(0, tick - 1) + 2 * Math.max(0, tick - 4);
            due("repeated(2, " + tick + ")", x.repeated(2, tick), due);
        }
    }

    private static void meaningsOfTheErrors() {
        check.says("`NOT_POSSIBLE = -1000002`: The call is not possible in the present state.");
        PipeMoments x = new PipeMoments();
        due("undo()", x.undo(), NOT_POSSIBLE);
        x.type('u');
        due("play()", x.play(), NOT_POSSIBLE);
        x.clearText();
        due("play() in another state", x.play(), 0);
        due("undo() in another state", x.undo(), 0);

        check.says("`LIMIT_REACHED = -1000003`: A fixed limit has been reached.");
        PipeMoments y = Nets.full();
        due("place(0, 0)", y.place(0, 0), LIMIT);
        due("pipe(1, 0, 1, 1)", y.pipe(1, 0, 1, 1), LIMIT);
        y.dropPipe(4);
        due("pipe(1, 0, 1, 1) below it", y.pipe(1, 0, 1, 1), 9);

        check.says("`NOT_FOUND = -1000004`: There is no such value.");
        due("earliest(1)", new PipeMoments().earliest(1), NOT_FOUND);
        due("dearest(0, 0)", new PipeMoments().dearest(0, 0), NOT_FOUND);
        due("helpful(0, 0)", new PipeMoments().helpful(0, 0), NOT_FOUND);
        due("fault(0)", new PipeMoments().fault(0), NOT_FOUND);
    }

    private static void numbersOfPlacesAndPipes() {
        check.says("Returns its number; INVALID_ARGUMENT if an argument is out of range; LIMIT_REACHED if there are 6.");
        PipeMoments x = new PipeMoments();
        for (int place = 1; place <= 5; place++) {
            due("place " + place, x.place(20, 40), place);
            due("how many there are", x.count(0), place + 1);
        }
        due("a seventh", x.place(20, 40), LIMIT);

        check.says("Returns its number; INVALID_ARGUMENT if an argument is out of range or both places are the same; "
            + "LIMIT_REACHED if there are 10.");
        for (int pipe = 0; pipe < 10; pipe++) {
            due("pipe " + pipe, x.pipe(5, 4, 4, 9), pipe);
            due("how many there are", x.count(1), pipe + 1);
        }
        due("an eleventh", x.pipe(5, 4, 4, 9), LIMIT);
    }

    private static void whatIsSet() {
        check.says("Sets when a pipe is open.");
        PipeMoments x = Nets.longLine();
        x.open(1, 3, 7);
        due("its first tick", x.pipeOf(1, 4), 3);
        due("its last tick", x.pipeOf(1, 5), 7);
        due("not that of another", x.pipeOf(0, 4), 0);

        check.says("Sets the bound of a pipe.");
        x.widen(1, 9);
        due("its bound", x.pipeOf(1, 3), 9);
        due("not that of another", x.pipeOf(0, 3), 3);

        check.says("Sets the units of a place.");
        x.units(1, 7);
        due("its units", x.placeOf(1, 0), 7);
        due("not those of another", x.placeOf(2, 0), 5);

        check.says("Sets the waiting room of a place");
        x.room(1, 6);
        due("its room", x.placeOf(1, 1), 6);
        due("not that of another", x.placeOf(2, 1), 2);

        check.says("0: from which place; 1: to which; 2: its time; 3: its bound; 4: its first tick; 5: its last one");
        int[] parts = {2, 1, 1, 9, 3, 7};
        for (int what = 0; what < parts.length; what++) {
            due("pipeOf(1, " + what + ")", x.pipeOf(1, what), parts[what]);
        }
    }

    private static void earliestIsTheLeastTick() {
        check.says("Finds the least tick by which all units of all places can have come, or so many of them.");
        for (int kind = 0; kind < NETS; kind++) {
            PipeMoments x = net(kind);
            int[] come = new int[LAST_TICK + 1];
            for (int tick = 0; tick <= LAST_TICK; tick++) {
                come[tick] = x.come(tick);
            }
            int all = x.count(2);
            for (int many = 0; many <= all + 1; many++) {
                due("net " + kind + ": earliest(" + many + ")", x.earliest(many), leastTick(come, many));
            }
            due("net " + kind + ": earliest(-1)", x.earliest(-1), leastTick(come, all));
        }
    }

    private static int leastTick(int[] come, int many) {
        for (int tick = 0; tick <= LAST_TICK; tick++) {
            if (come[tick] >= many) {
                return tick;
            }
        }
        return NOT_FOUND;
    }

    private static void narrowIsASet() {
        check.says("Returns the narrow pipes for a tick.");
        for (int kind = 0; kind < NETS; kind++) {
            int pipes = net(kind).count(1);
            for (int tick = 0; tick <= LAST_TICK; tick++) {
                int set = 0;
                for (int pipe = 0; pipe < pipes; pipe++) {
                    set |= isNarrow(net(kind), pipe, tick) ? 1 << pipe : 0;
                }
                due("net " + kind + ": narrow(" + tick + ")", net(kind).narrow(tick), set);
            }
        }
    }

    private static boolean isNarrow(PipeMoments x, int pipe, int tick) {
        int from = x.pipeOf(pipe, 0);
        int to = x.pipeOf(pipe, 1);
        int time = x.pipeOf(pipe, 2);
        int last = Math.min(x.pipeOf(pipe, 5), tick - time);
        for (int at = x.pipeOf(pipe, 4); at <= last; at++) {
            if (x.wanting(tick, from, at) == 1 && x.wanting(tick, to, at + time) == 0) {
                return true;
            }
        }
        return false;
    }

    /** An own unit of a place could be gone if without it, it would be so that as many come. */
    private static void oneIfItIs() {
        check.says("Returns 1 if it is, otherwise 0");
        for (int kind = 0; kind < NETS; kind++) {
            for (int place = 0; place < net(kind).count(0); place++) {
                for (int tick = 0; tick <= LAST_TICK; tick++) {
                    PipeMoments x = net(kind);
                    int units = x.placeOf(place, 0);
                    int most = x.come(tick);
                    int got = x.wanting(tick, place, 0);
                    x.units(place, Math.max(0, units - 1));
                    due("net " + kind + ": wanting(" + tick + ", " + place + ", 0)", got,
                        units > 0 && x.come(tick) == most ? 1 : 0);
                }
            }
        }
    }

    private static void dearestIsWithoutOne() {
        check.says("Finds the pipe without which the fewest units could have come by a tick.");
        for (int kind = 0; kind < NETS; kind++) {
            for (int tick = 0; tick <= LAST_TICK; tick++) {
                int dearest = NOT_FOUND;
                int fewest = Integer.MAX_VALUE;
                for (int pipe = 0; pipe < net(kind).count(1); pipe++) {
                    PipeMoments x = net(kind);
                    x.dropPipe(pipe);
                    if (x.come(tick) < fewest) {
                        dearest = pipe;
                        fewest = x.come(tick);
                    }
                }
                due("net " + kind + ": dearest(" + tick + ", 0)", net(kind).dearest(tick, 0), dearest);
                due("net " + kind + ": dearest(" + tick + ", 1)", net(kind).dearest(tick, 1), fewest);
            }
        }
    }

    private static void helpfulIsWithAWiderOne() {
        check.says("helps most: by which most units more could have come by a tick.");
        for (int kind = 0; kind < NETS; kind++) {
            for (int tick = 0; tick <= LAST_TICK; tick++) {
                int helpful = NOT_FOUND;
                int greatest = 0;
                for (int pipe = 0; pipe < net(kind).count(1); pipe++) {
                    PipeMoments x = net(kind);
                    int most = x.come(tick);
                    x.widen(pipe, x.pipeOf(pipe, 3) + 1);
                    if (x.come(tick) - most > greatest) {
                        helpful = pipe;
                        greatest = x.come(tick) - most;
                    }
                }
                due("net " + kind + ": helpful(" + tick + ", 0)", net(kind).helpful(tick, 0), helpful);
                due("net " + kind + ": helpful(" + tick + ", 1)", net(kind).helpful(tick, 1),
                    greatest == 0 ? NOT_FOUND : greatest);
            }
        }
    }

    private static void withOneMoreIsWithItsUnits() {
        check.says("Tells how many units could have come by a tick if a place had one unit more");
        for (int kind = 0; kind < NETS; kind++) {
            for (int place = 0; place < net(kind).count(0); place++) {
                PipeMoments x = net(kind);
                x.units(place, x.placeOf(place, 0) + 1);
                for (int tick = 0; tick <= LAST_TICK; tick++) {
                    due("net " + kind + ": withOneMore(" + tick + ", " + place + ")",
                        net(kind).withOneMore(tick, place), x.come(tick));
                }
            }
        }
    }

    private static void statesThatAreLeft() {
        check.says("Returns the number of states that are left in the history");
        for (int changes = 1; changes <= 6; changes++) {
            PipeMoments x = new PipeMoments();
            for (int change = 1; change <= changes; change++) {
                x.units(0, change);
            }
            for (int left = Math.min(changes, 4) - 1; left >= 0; left--) {
                due("undo() of " + changes + " changes", x.undo(), left);
                due("the units then", x.count(2), changes - Math.min(changes, 4) + left);
            }
        }
    }

    private static void texts() {
        check.says("Appends a character to the text.");
        typing(Nets.longLine());
        check.says("Returns the length of the text; INVALID_ARGUMENT if character is out of range; LIMIT_REACHED if it "
            + "has 60 characters.");
        typing(new PipeMoments());
        check.says("Returns how many there are in it");
        String text = "";
        for (int settings = 0; settings <= 12; settings++) {
            PipeMoments x = new PipeMoments();
            Nets.write(x, text);
            due("play() of " + settings, x.play(), settings);
            text += "u0,9;";
        }
        check.says("0: its position; 1: its reason; 2: its cause");
        int[] parts = {5, 2, 1};
        PipeMoments x = new PipeMoments();
        Nets.write(x, "u0,9;u0,21;u0,9;");
        for (int what = 0; what < parts.length; what++) {
            due("fault(" + what + ")", x.fault(what), parts[what]);
        }
    }

    /** What is typed stands behind what stood there, up to sixty. */
    private static void typing(PipeMoments x) {
        for (int length = 1; length <= 60; length++) {
            due("type", x.type("u0,1;".charAt((length - 1) % 5)), length);
            due("a setting is whole or ends too early", x.fault(2), length % 5 == 0 ? NOT_FOUND : length % 5);
        }
        due("one behind the last", x.type(';'), LIMIT);
    }

    private LastSentencesTest() {
    }
}
