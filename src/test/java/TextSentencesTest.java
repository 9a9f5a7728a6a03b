/** What the document's section "Texts" says, sentence by sentence: what is due at each boundary and beside it. */
public final class TextSentencesTest {
    private static final int INVALID = Nets.INVALID;
    private static final int NOT_POSSIBLE = Nets.NOT_POSSIBLE;
    private static final int LIMIT = Nets.LIMIT;
    private static final int NOT_FOUND = Nets.NOT_FOUND;

    /** Possible on the line: each form with numbers of one digit and of two. */
    private static final String[] SETTINGS = {
        "h1,2;", "h20,40;", "p1,0,4,9;", "p01,00,04,09;", "o0,1,2;", "o00,15,15;", "u1,2;", "u01,20;"};

    private static final Check check = new Check();

    public static void main(String[] args) {
        sixtyCharacters();
        emptyText();
        eachForm();
        digits();
        firstSettingThatIsNotPossible();
        endsTooEarly();
        breaksOff();
        otherSigns();
        numbersOutOfRange();
        placesAndPipesThatAreNotThere();
        firstWrongNumber();
        otherwiseNotPossible();
        reasonsInTheirOrder();
        whatIsAheadIsDone();
        playing();
        check.end();
    }

    private static void due(String call, int got, int want) {
        check.due(call, got, want);
    }

    private static void fault(PipeMoments x, String text, int position, int reason, int cause) {
        Nets.write(x, text);
        due("fault(0) of " + text, x.fault(0), position);
        due("fault(1) of " + text, x.fault(1), reason);
        due("fault(2) of " + text, x.fault(2), cause);
        due("play() of " + text, x.play(), NOT_POSSIBLE);
    }

    private static void noFault(PipeMoments x, String text, int settings) {
        Nets.write(x, text);
        for (int what = 0; what < 3; what++) {
            due("fault(" + what + ") of " + text, x.fault(what), NOT_FOUND);
        }
        due("play() of " + text, x.play(), settings);
    }

    /** An object with as many places and pipes as there can be but one of each. */
    private static PipeMoments nearlyFull() {
        PipeMoments x = new PipeMoments();
        for (int place = 1; place <= 4; place++) {
            x.place(0, 0);
        }
        for (int pipe = 0; pipe <= 8; pipe++) {
            x.pipe(1, 0, 1, 1);
        }
        return x;
    }

    private static void sixtyCharacters() {
        check.says("There is a text of at most 60 characters");
        PipeMoments x = new PipeMoments();
        for (int round = 0; round < 11; round++) {
            for (char sign : "u0,1;".toCharArray()) {
                x.type(sign);
            }
        }
        due("count(5)", x.count(5), 55);
        due("the 56th", x.type('u'), 56);
        due("the 57th", x.type('0'), 57);
        due("the 58th", x.type(','), 58);
        due("the 59th", x.type('7'), 59);
        due("it ends too early", x.fault(2), 4);
        due("the 60th", x.type(';'), 60);
        due("the 61st", x.type('x'), LIMIT);
        due("count(5)", x.count(5), 60);
        due("the last one stands", x.fault(0), NOT_FOUND);
        due("all twelve", x.play(), 12);
        due("the last one is done", x.placeOf(0, 0), 7);
        due("clearText()", x.clearText(), 60);
        due("there is room again", x.type('x'), 1);
    }

    private static void emptyText() {
        check.says("initially empty");
        PipeMoments x = new PipeMoments();
        due("count(5)", x.count(5), 0);
        due("clearText()", x.clearText(), 0);
        due("type('u')", x.type('u'), 1);

        check.says("NOT_FOUND if the text has no fault (also if it is empty)");
        PipeMoments y = new PipeMoments();
        for (int what = 0; what < 3; what++) {
            due("fault(" + what + ")", y.fault(what), NOT_FOUND);
        }
        Nets.write(y, "zz");
        due("fault(0)", y.fault(0), 0);
        due("clearText()", y.clearText(), 2);
        for (int what = 0; what < 3; what++) {
            due("fault(" + what + ") of the emptied one", y.fault(what), NOT_FOUND);
        }
        due("play() of the emptied one", y.play(), 0);
    }

    private static void eachForm() {
        check.says("\"h\" units, \",\", a room (a place is added)");
        PipeMoments x = Nets.line();
        noFault(x, "h20,40;", 1);
        due("its number", x.count(0), 3);
        due("its units", x.placeOf(2, 0), 20);
        due("its room", x.placeOf(2, 1), 40);
        noFault(x, "h0,0;", 1);
        due("its units", x.placeOf(3, 0), 0);
        due("its room", x.placeOf(3, 1), 0);

        check.says("\"p\" a place, \",\", a place, \",\", a time, \",\", a bound (a pipe is added)");
        noFault(x, "p1,0,4,9;p0,3,1,1;", 2);
        int[][] parts = {{1, 0, 4, 9, 0, 15}, {0, 3, 1, 1, 0, 15}};
        for (int what = 0; what < 6; what++) {
            due("pipeOf(1, " + what + ")", x.pipeOf(1, what), parts[0][what]);
            due("pipeOf(2, " + what + ")", x.pipeOf(2, what), parts[1][what]);
        }

        check.says("\"o\" a pipe, \",\", a tick, \",\", a tick (its first and last one)");
        noFault(x, "o2,3,15;o0,15,0;o1,0,0;", 3);
        due("first of 2", x.pipeOf(2, 4), 3);
        due("last of 2", x.pipeOf(2, 5), 15);
        due("first of 0", x.pipeOf(0, 4), 15);
        due("last of 0", x.pipeOf(0, 5), 0);
        due("last of 1", x.pipeOf(1, 5), 0);

        check.says("or \"u\" a place, \",\", units");
        noFault(x, "u0,20;u3,1;u1,0;", 3);
        due("units of 0", x.placeOf(0, 0), 20);
        due("units of 1", x.placeOf(1, 0), 0);
        due("units of 3", x.placeOf(3, 0), 1);
        due("the room of 3", x.placeOf(3, 1), 0);
    }

    private static void digits() {
        check.says("numbers of 1 or 2 digits, 0 ahead allowed");
        noFault(Nets.line(), "h0,0;", 1);
        noFault(Nets.line(), "h00,00;", 1);
        noFault(Nets.line(), "h09,9;", 1);
        noFault(Nets.line(), "p01,00,01,09;", 1);
        noFault(Nets.line(), "o00,00,09;", 1);
        noFault(Nets.line(), "u00,08;", 1);
        fault(Nets.line(), "h,0;", 0, 1, 1);
        fault(Nets.line(), "h0,;", 0, 1, 3);
        fault(Nets.line(), "h000,0;", 0, 1, 3);
        fault(Nets.line(), "h0,000;", 0, 1, 5);
        fault(Nets.line(), "p001,0,1,1;", 0, 1, 3);
        fault(Nets.line(), "p1,000,1,1;", 0, 1, 5);
        fault(Nets.line(), "p1,0,001,1;", 0, 1, 7);
        fault(Nets.line(), "p1,0,1,001;", 0, 1, 9);
        fault(Nets.line(), "o000,1,1;", 0, 1, 3);
        fault(Nets.line(), "o0,001,1;", 0, 1, 5);
        fault(Nets.line(), "o0,1,001;", 0, 1, 7);
        fault(Nets.line(), "u001,1;", 0, 1, 3);
        fault(Nets.line(), "u1,001;", 0, 1, 5);
        PipeMoments x = Nets.line();
        Nets.write(x, "u0,08;u1,20;");
        x.play();
        due("08 is 8", x.placeOf(0, 0), 8);
        due("20 is 20", x.placeOf(1, 0), 20);
    }

    private static void firstSettingThatIsNotPossible() {
        check.says("the position, from 0, of the first character of the first setting that is not possible");
        fault(Nets.line(), "u9,1;u9,1;", 0, 2, 0);
        fault(Nets.line(), "u1,1;u9,1;u8,1;", 5, 2, 0);
        fault(Nets.line(), "u1,1;u01,01;o0,3,3;x", 19, 1, 0);
        fault(Nets.line(), "u1,1;u01,01;o0,3,3;u1,21;x", 19, 2, 1);
        PipeMoments x = new PipeMoments();
        fault(x, "u0,1;u0,1;u0,1;u0,1;u0,1;u0,1;u0,1;u0,1;u0,1;u0,1;u0,1;u0,0u", 55, 1, 4);
        fault(x, "u00,1;u0,1;u0,1;u0,1;u0,1;u0,1;u0,1;u0,1;u0,1;u0,1;u0,01;u0;", 57, 1, 2);
        fault(x, "u00,01;u00,01;u0,1;u0,1;u0,1;u0,1;u0,1;u0,1;u0,1;u0,1;u0,1;u", 59, 1, 1);
    }

    private static void endsTooEarly() {
        check.says("(of one that the text ends too early it is its length)");
        for (String setting : SETTINGS) {
            for (int length = 1; length < setting.length(); length++) {
                String part = setting.substring(0, length);
                fault(Nets.line(), part, 0, 1, length);
                fault(Nets.line(), "u0,1;h01,2;" + part, 11, 1, length);
            }
            noFault(Nets.line(), setting, 1);
        }
        // what stood there before the text was emptied does not count
        for (String setting : SETTINGS) {
            PipeMoments x = Nets.line();
            Nets.write(x, setting);
            for (int length = setting.length() - 1; length > 0; length--) {
                fault(x, setting.substring(0, length), 0, 1, length);
            }
        }

        check.says("its \";\" included");
        for (String setting : SETTINGS) {
            fault(Nets.line(), setting.substring(0, setting.length() - 1), 0, 1, setting.length() - 1);
            fault(Nets.line(), setting.replace(';', ',') + setting, 0, 1, setting.length() - 1);
            fault(Nets.line(), setting + ";", setting.length(), 1, 0);
        }
    }

    private static void breaksOff() {
        check.says("at which character of the setting, from 0, it breaks off");
        for (String setting : SETTINGS) {
            for (int at = 0; at < setting.length(); at++) {
                String broken = setting.substring(0, at) + " " + setting.substring(at + 1);
                fault(Nets.line(), broken, 0, 1, at);
                fault(Nets.line(), "o0,1,1;" + broken + "u0,0;", 7, 1, at);
            }
        }
        // a sign that is not of the form there, but elsewhere
        fault(Nets.line(), "h1;2;", 0, 1, 2);
        fault(Nets.line(), "h1,2,", 0, 1, 4);
        fault(Nets.line(), "h1,2,3;", 0, 1, 4);
        fault(Nets.line(), "h;1,2;", 0, 1, 1);
        fault(Nets.line(), "hh1,2;", 0, 1, 1);
        fault(Nets.line(), "1,2;", 0, 1, 0);
        fault(Nets.line(), ",1,2;", 0, 1, 0);
        fault(Nets.line(), "p1,0,1;", 0, 1, 6);
        fault(Nets.line(), "p1,0,1,1,1;", 0, 1, 8);
        fault(Nets.line(), "o0,1;", 0, 1, 4);
        fault(Nets.line(), "o0,1,1,1;", 0, 1, 6);
        fault(Nets.line(), "u1;", 0, 1, 2);
        fault(Nets.line(), "u1,1,1;", 0, 1, 4);
    }

    private static void otherSigns() {
        check.says("its reason is 1 if it is not of this form");
        for (int sign = 32; sign <= 126; sign++) {
            boolean begins = "hpou".indexOf(sign) >= 0;
            boolean isDigit = sign >= '0' && sign <= '9';
            fault(Nets.line(), (char) sign + "1,2", 0, 1, begins ? 4 : 0);
            fault(Nets.line(), "u1," + (char) sign, 0, 1, isDigit ? 4 : 3);
            if (sign != ';') {
                fault(Nets.line(), "u1,2" + (char) sign + ",", 0, 1, isDigit ? 5 : 4);
            }
            if (sign != ',') {
                fault(Nets.line(), "u1" + (char) sign + ";", 0, 1, isDigit ? 3 : 2);
            }
        }
    }

    private static void numbersOutOfRange() {
        check.says("2 if a number is out of its range");
        PipeMoments x = Nets.line();
        fault(x, "h21,0;", 0, 2, 0);
        fault(x, "h99,0;", 0, 2, 0);
        fault(x, "h0,41;", 0, 2, 1);
        fault(x, "h0,99;", 0, 2, 1);
        fault(x, "p1,0,0,1;", 0, 2, 2);
        fault(x, "p1,0,5,1;", 0, 2, 2);
        fault(x, "p1,0,99,1;", 0, 2, 2);
        fault(x, "p1,0,1,0;", 0, 2, 3);
        fault(x, "p1,0,1,10;", 0, 2, 3);
        fault(x, "p1,0,1,99;", 0, 2, 3);
        fault(x, "o0,16,0;", 0, 2, 1);
        fault(x, "o0,99,0;", 0, 2, 1);
        fault(x, "o0,0,16;", 0, 2, 2);
        fault(x, "o0,0,99;", 0, 2, 2);
        fault(x, "u1,21;", 0, 2, 1);
        fault(x, "u1,99;", 0, 2, 1);
        noFault(x, "h20,40;h0,0;p1,0,1,1;p1,0,4,9;o0,0,0;o0,15,15;u1,0;u1,20;", 8);
        due("nothing was done but once", x.count(0), 4);
    }

    private static void placesAndPipesThatAreNotThere() {
        check.says("or there is no such place or pipe");
        PipeMoments x = Nets.line();
        fault(x, "p2,0,1,1;", 0, 2, 0);
        fault(x, "p99,0,1,1;", 0, 2, 0);
        fault(x, "p1,2,1,1;", 0, 2, 1);
        fault(x, "p1,99,1,1;", 0, 2, 1);
        fault(x, "o1,0,0;", 0, 2, 0);
        fault(x, "o99,0,0;", 0, 2, 0);
        fault(x, "u2,0;", 0, 2, 0);
        fault(x, "u99,0;", 0, 2, 0);
        PipeMoments y = new PipeMoments();
        fault(y, "p1,0,1,1;", 0, 2, 0);
        fault(y, "o0,0,0;", 0, 2, 0);
        fault(y, "u1,0;", 0, 2, 0);
        noFault(y, "u0,0;", 1);
        PipeMoments z = Nets.full();
        fault(z, "u6,0;", 0, 2, 0);
        fault(z, "o10,0,0;", 0, 2, 0);
        noFault(z, "u5,0;o9,0,0;", 2);
    }

    private static void firstWrongNumber() {
        check.says("with the reason 2 which of its numbers it is, from 0, the first one");
        PipeMoments x = Nets.line();
        fault(x, "h21,41;", 0, 2, 0);
        fault(x, "p2,3,0,0;", 0, 2, 0);
        fault(x, "p1,3,0,0;", 0, 2, 1);
        fault(x, "p1,0,0,0;", 0, 2, 2);
        fault(x, "p1,0,1,0;", 0, 2, 3);
        fault(x, "o1,16,16;", 0, 2, 0);
        fault(x, "o0,16,16;", 0, 2, 1);
        fault(x, "o0,0,16;", 0, 2, 2);
        fault(x, "u2,21;", 0, 2, 0);

        check.says("(of a pipe whose places are the same the second one of both)");
        fault(x, "p0,0,1,1;", 0, 2, 1);
        fault(x, "p1,1,1,1;", 0, 2, 1);
        fault(x, "p01,1,1,1;", 0, 2, 1);
        fault(x, "p1,1,0,0;", 0, 2, 1);
        fault(x, "h1,1;p2,2,1,1;", 5, 2, 1);
        // where there is no such place, the first number is wrong already
        fault(x, "p2,2,1,1;", 0, 2, 0);
    }

    private static void otherwiseNotPossible() {
        check.says("and 3 if it is not possible otherwise");
        PipeMoments x = nearlyFull();
        fault(x, "h0,0;h0,0;", 5, 3, NOT_FOUND);
        fault(x, "p1,0,1,1;p1,0,1,1;", 9, 3, NOT_FOUND);
        noFault(x, "h0,0;p1,0,1,1;", 2);
        fault(x, "h0,0;", 0, 3, NOT_FOUND);
        fault(x, "p1,0,1,1;", 0, 3, NOT_FOUND);
        noFault(x, "u5,20;o9,15,0;", 2);

        check.says("for 2 if the reason is 3");
        Nets.write(x, "u0,1;h0,0;");
        due("fault(0)", x.fault(0), 5);
        due("fault(1)", x.fault(1), 3);
        due("fault(2)", x.fault(2), NOT_FOUND);
        due("fault(3)", x.fault(3), INVALID);
    }

    private static void reasonsInTheirOrder() {
        check.says("and 3 if it is not possible otherwise, when those ahead of it are done");
        PipeMoments x = Nets.full();
        fault(x, "h21,41", 0, 1, 6);
        fault(x, "h0,41", 0, 1, 5);
        fault(x, "h0,41;", 0, 2, 1);
        fault(x, "h21,0;", 0, 2, 0);
        fault(x, "h20,40;", 0, 3, NOT_FOUND);
        fault(x, "p9,9,9,99x", 0, 1, 9);
        fault(x, "p6,0,1,1;", 0, 2, 0);
        fault(x, "p1,1,1,1;", 0, 2, 1);
        fault(x, "p1,0,5,1;", 0, 2, 2);
        fault(x, "p1,0,1,10;", 0, 2, 3);
        fault(x, "p1,0,1,1", 0, 1, 8);
        fault(x, "p1,0,1,1;", 0, 3, NOT_FOUND);
    }

    private static void whatIsAheadIsDone() {
        check.says("when those ahead of it are done");
        noFault(new PipeMoments(), "h5,5;p1,0,1,1;o0,3,1;u1,7;", 4);
        fault(new PipeMoments(), "p1,0,1,1;h5,5;", 0, 2, 0);
        fault(new PipeMoments(), "h5,5;o0,3,1;p1,0,1,1;", 5, 2, 0);
        fault(new PipeMoments(), "h5,5;u2,7;h5,5;", 5, 2, 0);
        noFault(new PipeMoments(), "h5,5;h5,5;h5,5;h5,5;h5,5;u5,1;p5,4,1,1;", 7);
        fault(new PipeMoments(), "h5,5;h5,5;h5,5;h5,5;h5,5;h5,5;", 25, 3, NOT_FOUND);
        fault(nearlyFull(), "o9,1,1;p1,0,1,1;", 0, 2, 0);
        noFault(nearlyFull(), "p1,0,1,1;o9,1,1;", 2);

        check.says("Tells about the fault of the text.");
        PipeMoments x = new PipeMoments();
        Nets.write(x, "h5,5;u1,7;u2,1;");
        due("fault(0)", x.fault(0), 10);
        due("fault(0) again: it does nothing", x.fault(0), 10);
        due("count(0)", x.count(0), 1);
        due("place(1, 1)", x.place(1, 1), 1);
        due("as it is now", x.fault(0), NOT_FOUND);
        due("undo()", x.undo(), 0);
        due("as it was", x.fault(0), 10);
    }

    private static void playing() {
        check.says("Does all settings of the text, which stays.");
        PipeMoments x = new PipeMoments();
        Nets.write(x, "h5,5;");
        due("play()", x.play(), 1);
        due("count(5)", x.count(5), 5);
        for (int place = 2; place <= 5; place++) {
            due("play() again", x.play(), 1);
            due("places", x.count(0), place + 1);
        }
        due("there are 6 places", x.play(), NOT_POSSIBLE);
        due("places", x.count(0), 6);
        due("count(5)", x.count(5), 5);

        check.says("They are one change, also if there are none.");
        PipeMoments y = new PipeMoments();
        due("play() of none", y.play(), 0);
        due("count(4)", y.count(4), 1);
        Nets.write(y, "h1,1;h2,2;p1,2,1,1;");
        due("play() of three", y.play(), 3);
        due("count(4)", y.count(4), 2);
        due("undo()", y.undo(), 1);
        due("count(0)", y.count(0), 1);
        due("count(1)", y.count(1), 0);
        due("undo() of none", y.undo(), 0);
        due("count(0)", y.count(0), 1);

        check.says("NOT_POSSIBLE if it has a fault");
        Nets.write(y, "h1,1;u0,7;u3,1;");
        due("play()", y.play(), NOT_POSSIBLE);
        due("count(0)", y.count(0), 1);
        due("count(2)", y.count(2), 0);
        due("count(4)", y.count(4), 0);
    }

    private TextSentencesTest() {
    }
}
