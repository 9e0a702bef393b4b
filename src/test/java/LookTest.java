/** Promises 10 to 14: square, step, ofHop, side, count. */
final class LookTest {
    private static final int NO_SUCH = -1, BAD_VALUE = -2, NONE = -6;
    private static final int[] FAR = {Integer.MIN_VALUE, -6, -1, 1000, Integer.MAX_VALUE};

    private LookTest() {
    }

    static void run() {
        squareAnswers();
        squareInDanger();
        squareHops();
        stepAnswers();
        ofHopAnswers();
        ofHopOfJumps();
        ofHopCrowns();
        sideAnswers();
        countAnswers();
        nothingChanges();
    }

    private static void squareAnswers() {
        RingDraughts x = new RingDraughts();
        for (int wrong : FAR) {
            Check.due("square " + wrong, x.square(wrong, 0), NO_SUCH);
            Check.due("square: the square first", x.square(wrong, wrong), NO_SUCH);
            Check.due("square 0 " + wrong, x.square(0, wrong), BAD_VALUE);
        }
        Check.due("square 48", x.square(48, 0), NO_SUCH);
        Check.due("square 0 5", x.square(0, 5), BAD_VALUE);
        int[] squares = {0, 5, 6, 11, 12, 30, 47};
        int[] columns = {0, 10, 1, 11, 0, 1, 11};
        int[] rows = {0, 0, 1, 1, 2, 5, 7};
        int[] pieces = {NONE, NONE, 0, 0, 0, 2, NONE};
        for (int i = 0; i < squares.length; i++) {
            Check.due("square: piece on " + squares[i], x.square(squares[i], 0), pieces[i]);
            Check.due("square: x of " + squares[i], x.square(squares[i], 1), columns[i]);
            Check.due("square: y of " + squares[i], x.square(squares[i], 2), rows[i]);
        }
    }

    private static void squareInDanger() {
        RingDraughts x = Check.board(0, 0, 0, 6, 2, 44, 1, 21, 3);
        Check.due("danger: a man ahead", x.square(6, 3), 1);
        Check.due("danger: a free square", x.square(1, 3), 0);
        Check.due("danger: its own side is to move", x.square(0, 3), 1);
        x.turn(1);
        Check.due("danger: whoever is to move", x.square(6, 3), 1);
        RingDraughts back = Check.board(0, 13, 0, 6, 2);
        Check.due("danger: men don't take backwards", back.square(6, 3), 0);
        Check.due("danger: nor the other's", back.square(13, 3), 0);
        RingDraughts held = Check.board(1, 0, 0, 6, 2, 13, 0);
        Check.due("danger: what stands in front of a piece", held.square(6, 3), 0);
        RingDraughts far = Check.board(0, 0, 1, 39, 2);
        Check.due("danger: from afar", far.square(39, 3), 1);
        Check.due("danger: not by a man", far.square(0, 3), 0);
        RingDraughts jumper = Check.board(0, 0, 0, 6, 2, 19, 2, 3, 0, 9, 2);
        jumper.play(0, 13);
        Check.due("danger: the jumper", jumper.count(4), 13);
        Check.due("danger: of any piece, not of the jumper alone", jumper.square(9, 3), 1);
        jumper.giveUp();
        Check.due("danger: in an ended game", jumper.square(19, 3), 1);
    }

    private static void squareHops() {
        RingDraughts x = new RingDraughts();
        Check.due("hops of 12", x.square(12, 4), 2);
        Check.due("hops of 6, which is shut in", x.square(6, 4), 0);
        Check.due("hops of the other side", x.square(30, 4), 0);
        Check.due("hops of a free square", x.square(20, 4), 0);
        RingDraughts y = Check.board(0, 0, 0, 6, 2, 3, 0);
        Check.due("hops of a man that jumps", y.square(0, 4), 1);
        Check.due("hops of one that can't", y.square(3, 4), 0);
        RingDraughts z = Check.board(0, 0, 1, 1, 3);
        Check.due("hops of a king", z.square(0, 4), 92);
    }

    private static void stepAnswers() {
        RingDraughts x = new RingDraughts();
        for (int wrong : FAR) {
            Check.due("step " + wrong, x.step(wrong, 0), NO_SUCH);
            Check.due("step: the square first", x.step(wrong, wrong), NO_SUCH);
            Check.due("step 0 " + wrong, x.step(0, wrong), BAD_VALUE);
        }
        Check.due("step 48 0", x.step(48, 0), NO_SUCH);
        Check.due("step 0 4", x.step(0, 4), BAD_VALUE);
        int[][] due = {
            {0, 6, 11, 42, 47}, {5, 11, 10, 47, 46}, {6, 13, 12, 1, 0}, {11, 12, 17, 0, 5},
            {26, 32, 31, 20, 19}, {42, 1, 0, 37, 36}, {47, 0, 5, 36, 41}, {30, 37, 36, 25, 24},
        };
        for (int[] row : due) {
            for (int way = 0; way < 4; way++) Check.due("step " + row[0] + " " + way, x.step(row[0], way), row[way + 1]);
        }
        for (int square = 0; square < 48; square++) {
            Check.due("step and back 0", x.step(x.step(square, 0), 3), square);
            Check.due("step and back 1", x.step(x.step(square, 1), 2), square);
        }
    }

    private static void ofHopAnswers() {
        RingDraughts x = new RingDraughts();
        for (int wrong : FAR) {
            Check.due("ofHop " + wrong, x.ofHop(wrong, 0), NO_SUCH);
            Check.due("ofHop: the hop first", x.ofHop(wrong, wrong), NO_SUCH);
            Check.due("ofHop 0 " + wrong, x.ofHop(0, wrong), BAD_VALUE);
        }
        Check.due("ofHop 12 0", x.ofHop(12, 0), NO_SUCH);
        Check.due("ofHop 0 7", x.ofHop(0, 7), BAD_VALUE);
        due(x, 0, 12, 18, 0, 1, NONE, 0, 0);
        due(x, 1, 12, 23, 1, 1, NONE, 0, 0);
        due(x, 2, 13, 19, 0, 1, NONE, 0, 0);
        due(x, 11, 17, 22, 1, 1, NONE, 0, 0);
        x.turn(1);
        due(x, 0, 30, 25, 2, 1, NONE, 0, 0);
        due(x, 1, 30, 24, 3, 1, NONE, 0, 0);
        RingDraughts king = Check.board(0, 0, 1, 1, 3);
        due(king, 0, 0, 6, 0, 1, NONE, 0, 0);
        due(king, 22, 0, 47, 0, 23, NONE, 0, 0);
        due(king, 23, 0, 11, 1, 1, NONE, 0, 0);
        due(king, 91, 0, 6, 3, 23, NONE, 0, 0);
        Check.due("ofHop: none after the last", king.ofHop(92, 0), NO_SUCH);
    }

    private static void due(RingDraughts x, int hop, int... answers) {
        for (int what = 0; what < answers.length; what++) {
            Check.due("ofHop " + hop + " " + what, x.ofHop(hop, what), answers[what]);
        }
    }

    private static void ofHopOfJumps() {
        RingDraughts man = Check.board(0, 0, 0, 6, 2, 19, 2);
        due(man, 0, 0, 13, 0, 2, 6, 0, 1);
        RingDraughts king = Check.board(0, 0, 1, 20, 3);
        Check.due("ofHop: jumps of a king", king.count(2), 22);
        due(king, 0, 0, 26, 1, 20, 20, 0, 0);
        due(king, 3, 0, 42, 1, 23, 20, 0, 0);
        due(king, 4, 0, 15, 2, 6, 20, 0, 0);
        RingDraughts chosen = Check.board(0, 0, 1, 6, 2, 14, 2);
        Check.due("ofHop: squares to come down on", chosen.count(2), 22);
        for (int hop = 0; hop < 22; hop++) {
            Check.due("ofHop: 14 can be jumped from every second one", chosen.ofHop(hop, 6), (hop + 2) % 2);
        }
    }

    private static void ofHopCrowns() {
        RingDraughts up = Check.board(0, 42, 0, 37, 0);
        due(up, 0, 37, 43, 0, 1, NONE, 0, 0);
        due(up, 1, 42, 1, 0, 1, NONE, 1, 0);
        RingDraughts none = Check.board(0, 42, 1, 24, 2);
        Check.due("ofHop: a king is one already", none.ofHop(0, 5), 0);
        RingDraughts down = Check.board(1, 6, 2, 0, 2, 19, 0);
        due(down, 0, 0, 42, 2, 1, NONE, 1, 0);
        due(down, 1, 0, 47, 3, 1, NONE, 1, 0);
        due(down, 2, 6, 1, 2, 1, NONE, 0, 0);
        RingDraughts within = Check.board(0, 36, 0, 42, 2, 24, 2);
        due(within, 0, 36, 1, 0, 2, 42, 1, 0);
        RingDraughts first = Check.board(0, 47, 0, 0, 2, 24, 2);
        due(first, 0, 47, 6, 0, 2, 0, 1, 1);
    }

    private static void sideAnswers() {
        RingDraughts x = Check.board(0, 0, 0, 6, 2, 19, 2, 3, 1, 45, 3);
        for (int wrong : FAR) {
            Check.due("side " + wrong, x.side(wrong, 0), BAD_VALUE);
            Check.due("side 0 " + wrong, x.side(0, wrong), BAD_VALUE);
        }
        Check.due("side 2 0", x.side(2, 0), BAD_VALUE);
        Check.due("side 1 5", x.side(1, 5), BAD_VALUE);
        int[][] before = {{1, 1, 600, 0, 4}, {2, 1, 600, 0, 5}};
        int[][] after = {{1, 1, 598, 0, 4}, {1, 1, 600, 1, 4}};
        for (int i = 0; i < 10; i++) Check.due("side " + i / 5 + " " + i % 5, x.side(i / 5, i % 5), before[i / 5][i % 5]);
        int hop = 0;
        while (hop < x.count(2) && x.ofHop(hop, 4) != 6) hop++;
        x.hop(hop, 2);
        for (int i = 0; i < 10; i++) Check.due("side after a jump " + i / 5 + " " + i % 5, x.side(i / 5, i % 5), after[i / 5][i % 5]);
        x.set(0, 3);
        Check.due("side: lost in the new game", x.side(1, 3), 0);
    }

    private static void countAnswers() {
        RingDraughts x = Check.board(1, 0, 1, 1, 3);
        for (int wrong : FAR) Check.due("count " + wrong, x.count(wrong), BAD_VALUE);
        Check.due("count 10", x.count(10), BAD_VALUE);
        x.clock(77);
        x.play(1, 14);
        x.play(0, 13);
        x.play(14, 1);
        x.play(13, 0);
        Check.putText(x, "1-2,");
        int[] due = {0, 1, 92, 4, NONE, 2, 4, 77, 4, 6};
        for (int what = 0; what < due.length; what++) Check.due("count " + what, x.count(what), due[what]);
        RingDraughts y = Check.board(0, 0, 0, 6, 2, 19, 2);
        y.hop(0, 0);
        Check.due("count: jumps on", y.count(4), 13);
        y.hop(0, 1000);
        Check.due("count: the position stays behind the clock", y.count(4), 13);
        Check.due("count: how it is", y.count(0), 2);
    }

    private static void nothingChanges() {
        RingDraughts x = new RingDraughts();
        RingDraughts same = new RingDraughts();
        for (int i = 0; i < 20; i++) {
            x.square(i, i % 5);
            x.square(12, 3);
            x.step(i, i % 4);
            x.ofHop(i, i % 7);
            x.side(i % 2, i % 5);
            x.count(i % 10);
        }
        for (int what = 0; what < 10; what++) Check.due("nothing changes: count", x.count(what), same.count(what));
        for (int square = 0; square < 48; square++) Check.due("nothing changes: square", x.square(square, 0), same.square(square, 0));
    }
}
