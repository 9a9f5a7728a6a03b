/** Small nets that several tests begin with, and numbers that are out of every range. */
final class Nets {
    static final int INVALID = PipeMoments.INVALID_ARGUMENT;
    static final int NOT_POSSIBLE = PipeMoments.NOT_POSSIBLE;
    static final int LIMIT = PipeMoments.LIMIT_REACHED;
    static final int NOT_FOUND = PipeMoments.NOT_FOUND;

    static final int[] FAR = {Integer.MIN_VALUE, -1000, -1, 1000, Integer.MAX_VALUE};

    /** One place with ten units, and a pipe to the exit with the time 2 and the bound 3. */
    static PipeMoments line() {
        return line(10, 40, 2, 3);
    }

    /** The place 1, and the pipe 0 from it to the exit. */
    static PipeMoments line(int units, int room, int time, int bound) {
        PipeMoments x = new PipeMoments();
        x.place(units, room);
        x.pipe(1, 0, time, bound);
        return x;
    }

    /** 2 -> 1 -> exit: the pipe 0 from 2 (time 1, bound 5), the pipe 1 from 1 (time 1, bound 2). */
    static PipeMoments chain(int units, int roomBetween) {
        PipeMoments x = new PipeMoments();
        x.place(0, roomBetween);
        x.place(units, 40);
        x.pipe(2, 1, 1, 5);
        x.pipe(1, 0, 1, 2);
        return x;
    }

    /** The line with 5 units in the place 2, which come to the place 1 by the pipe 1. */
    static PipeMoments longLine() {
        PipeMoments x = line();
        x.place(5, 2);
        x.pipe(2, 1, 1, 4);
        return x;
    }

    /** As many places and pipes as there can be; the last place has 5 units, the last pipe the bound 5. */
    static PipeMoments full() {
        PipeMoments x = new PipeMoments();
        for (int place = 1; place < 6; place++) {
            x.place(place, 10 * (place % 4));
        }
        for (int pipe = 0; pipe < 10; pipe++) {
            x.pipe(1 + pipe % 5, pipe % 5, 1 + pipe % 4, 1 + pipe % 5);
        }
        return x;
    }

    static void write(PipeMoments x, String text) {
        x.clearText();
        for (char sign : text.toCharArray()) {
            x.type(sign);
        }
    }

    /** All that can be asked at little cost: counts, places, pipes, and the text's fault. */
    static String view(PipeMoments x) {
        StringBuilder view = new StringBuilder();
        for (int what = 0; what < 6; what++) {
            view.append(x.count(what)).append(' ');
        }
        int places = x.count(0);
        for (int place = 0; place < places; place++) {
            view.append("| ").append(x.placeOf(place, 0)).append(' ').append(x.placeOf(place, 1)).append(' ');
        }
        int pipes = x.count(1);
        for (int pipe = 0; pipe < pipes; pipe++) {
            view.append("| ");
            for (int what = 0; what < 6; what++) {
                view.append(x.pipeOf(pipe, what)).append(' ');
            }
        }
        view.append("| ");
        for (int what = 0; what < 3; what++) {
            view.append(x.fault(what)).append(' ');
        }
        return view.toString();
    }

    private Nets() {
    }
}
