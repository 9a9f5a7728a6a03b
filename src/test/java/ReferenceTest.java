import java.util.Random;

/** Compares the program with the reference over many runs of calls; the dice are always the same. */
public final class ReferenceTest {
    private static final int RUNS = 1500;
    private static final String[] CHANGES = {
        "place", "pipe", "pipe", "dropPipe", "open", "open", "widen", "units", "room", "undo", "play"};
    private static final String[] QUESTIONS = {
        "pipeOf", "placeOf", "placeOf", "come", "come", "earliest", "repeated", "narrow", "wanting", "wanting",
        "dearest", "helpful", "withOneMore", "count", "fault"};

    private final Random dice;
    private final Comparison both;

    private ReferenceTest(Check check, int run) {
        dice = new Random(run);
        both = new Comparison(check, "run " + run);
    }

    public static void main(String[] args) {
        Check check = new Check();
        for (int run = 0; run < RUNS && check.isClean(); run++) {
            new ReferenceTest(check, run).run();
        }
        check.end();
    }

    private int upTo(int most) {
        return dice.nextInt(most + 1);
    }

    private boolean oneIn(int many) {
        return dice.nextInt(many) == 0;
    }

    private <T> T oneOf(T[] all) {
        return all[dice.nextInt(all.length)];
    }

    private void run() {
        int tightness = upTo(2);
        lay(tightness);
        both.view();
        askAll();
        int calls = 20 + upTo(60);
        for (int call = 0; call < calls; call++) {
            switch (upTo(5)) {
                case 0:
                case 1:
                    change();
                    break;
                case 2:
                    write(oneIn(3) ? brokenText() : text());
                    break;
                default:
                    ask(oneOf(QUESTIONS));
                    break;
            }
        }
        askAll();
        both.view();
    }

    /** A net of some size; the tighter, the fewer units can wait and the shorter pipes are open. */
    private void lay(int tightness) {
        int places = 1 + upTo(4);
        for (int place = 0; place < places; place++) {
            int room = tightness == 0 ? 40 : upTo(tightness == 1 ? 6 : 1);
            both.call("place", oneIn(3) ? 0 : upTo(oneIn(2) ? 20 : 6), room);
        }
        int pipes = oneIn(8) ? upTo(10) : places + upTo(9 - places);
        for (int pipe = 0; pipe < pipes; pipe++) {
            int from = 1 + upTo(places - 1);
            int to = oneIn(3) ? 0 : upTo(places);
            both.call("pipe", from, to, 1 + upTo(oneIn(2) ? 1 : 3), 1 + upTo(oneIn(2) ? 2 : 8));
            if (tightness > 0 && oneIn(4)) {
                both.call("open", pipe, upTo(4), 2 + upTo(13));
            }
        }
        if (oneIn(4)) {
            both.call("units", 0, upTo(20));
        }
    }

    private void askAll() {
        int tick = upTo(15);
        both.call("narrow", tick);
        for (int what = 0; what < 2; what++) {
            both.call("dearest", tick, what);
            both.call("helpful", tick, what);
        }
        for (int by = 0; by < 16; by += 1 + upTo(3)) {
            both.call("come", by);
        }
        both.call("earliest", -1);
        for (int place = both.reference("count", 0) - 1; place > 0; place--) {
            both.call("repeated", place, upTo(15));
            both.call("withOneMore", tick, place);
            both.call("wanting", tick, place, upTo(tick));
        }
    }

    private void change() {
        String change = oneOf(CHANGES);
        if (!oneIn(4)) {
            both.call(change, rightNumbers(change));
        } else {
            both.call(change, anyNumbers(change));
        }
        if (oneIn(6)) {
            both.view();
        }
    }

    private void ask(String question) {
        both.call(question, oneIn(6) ? anyNumbers(question) : rightNumbers(question));
    }

    private int aPlace() {
        return upTo(both.reference("count", 0) - 1);
    }

    private int aPipe() {
        return upTo(Math.max(0, both.reference("count", 1) - 1));
    }

    private int[] rightNumbers(String method) {
        int tick = upTo(15);
        switch (method) {
            case "place": return new int[] {upTo(20), upTo(40)};
            case "pipe": return new int[] {aPlace(), aPlace(), 1 + upTo(3), 1 + upTo(8)};
            case "dropPipe": return new int[] {aPipe()};
            case "open": return new int[] {aPipe(), upTo(15), upTo(15)};
            case "widen": return new int[] {aPipe(), 1 + upTo(8)};
            case "units": return new int[] {aPlace(), upTo(20)};
            case "room": return new int[] {aPlace(), oneIn(2) ? upTo(3) : upTo(40)};
            case "pipeOf": return new int[] {aPipe(), upTo(5)};
            case "placeOf": return new int[] {aPlace(), upTo(4)};
            case "come": case "narrow": return new int[] {tick};
            case "earliest": return new int[] {oneIn(3) ? -1 : upTo(oneIn(4) ? 120 : 30)};
            case "repeated": return new int[] {aPlace(), tick};
            case "wanting": return new int[] {tick, aPlace(), upTo(tick)};
            case "dearest": case "helpful": return new int[] {tick, upTo(1)};
            case "withOneMore": return new int[] {tick, aPlace()};
            case "count": return new int[] {upTo(5)};
            case "fault": return new int[] {upTo(2)};
            default: return new int[0];
        }
    }

    /** Numbers at the edges of the ranges, within and without. */
    private int[] anyNumbers(String method) {
        int[] edges = {-2, -1, 0, 1, 2, 3, 4, 5, 6, 7, 8, 9, 10, 11, 15, 16, 17, 20, 21, 40, 41, 119, 120, 121,
            Integer.MAX_VALUE, Integer.MIN_VALUE};
        int[] numbers = rightNumbers(method);
        for (int number = 0; number < numbers.length; number++) {
            if (oneIn(2)) {
                numbers[number] = edges[upTo(edges.length - 1)];
            }
        }
        return numbers;
    }

    private void write(String text) {
        if (!oneIn(4)) {
            both.call("clearText");
        }
        for (char sign : text.toCharArray()) {
            both.call("type", sign);
        }
        for (int what = 0; what < 3; what++) {
            both.call("fault", what);
        }
        both.call("play");
    }

    private String text() {
        StringBuilder text = new StringBuilder();
        int settings = upTo(4);
        for (int setting = 0; setting < settings; setting++) {
            text.append(setting());
        }
        return text.toString();
    }

    private String setting() {
        String[] methods = {"place", "pipe", "open", "units"};
        int kind = upTo(3);
        String method = methods[kind];
        int[] numbers = oneIn(5) ? anyNumbers(method) : rightNumbers(method);
        StringBuilder setting = new StringBuilder().append("hpou".charAt(kind));
        for (int number = 0; number < numbers.length; number++) {
            setting.append(number == 0 ? "" : ",");
            setting.append(oneIn(4) && numbers[number] >= 0 && numbers[number] < 10 ? "0" : "");
            setting.append(numbers[number]);
        }
        return setting.append(';').toString();
    }

    private String brokenText() {
        StringBuilder text = new StringBuilder(text()).append(setting());
        int at = upTo(text.length() - 1);
        switch (upTo(2)) {
            case 0:
                text.setLength(at);
                break;
            case 1:
                text.deleteCharAt(at);
                break;
            default:
                text.insert(at, " h;,p0u9o/:-".charAt(upTo(11)));
                break;
        }
        return text.toString();
    }
}
