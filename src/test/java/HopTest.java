/** Promises 6 to 9: hop, play, playAll, giveUp. */
final class HopTest {
    private static final int NO_SUCH = -1, BAD_VALUE = -2, BAD_TEXT = -3, NOT_POSSIBLE = -5, NONE = -6;

    private HopTest() {
    }

    static void run() {
        hopAnswers();
        hopUsesTime();
        hopBeyondTheClock();
        hopJumpsOn();
        playAnswers();
        playTakesTheLowest();
        playAllAnswers();
        playAllStops();
        playAllIsOneChange();
        giveUpAnswers();
    }

    private static void hopAnswers() {
        RingDraughts x = new RingDraughts();
        int[] wrong = {Integer.MIN_VALUE, -6, -1, 12, 13, Integer.MAX_VALUE};
        for (int hop : wrong) {
            Check.due("hop " + hop, x.hop(hop, 0), NO_SUCH);
            Check.due("hop: the number first", x.hop(hop, -1), NO_SUCH);
        }
        Check.due("hop 0 -1", x.hop(0, -1), BAD_VALUE);
        Check.due("hop 0 10000", x.hop(0, 10000), BAD_VALUE);
        Check.due("hop 0 min", x.hop(0, Integer.MIN_VALUE), BAD_VALUE);
        Check.due("hop 0 max", x.hop(0, Integer.MAX_VALUE), BAD_VALUE);
        Check.due("hop: nothing changed", x.count(9) + x.count(3), 0);
        Check.due("hop 11 0", x.hop(11, 0), 0);
        Check.due("hop: left", x.square(17, 0), NONE);
        Check.due("hop: right and left up from 17 are 23 and 22", x.square(22, 0), 0);
        Check.due("hop: side", x.count(1), 1);
        Check.due("hop: made", x.count(3), 1);
        Check.due("hop: changes", x.count(9), 1);
        Check.due("hop: clock", x.side(0, 2), 600);
    }

    private static void hopUsesTime() {
        RingDraughts x = new RingDraughts();
        x.hop(0, 1);
        x.hop(0, 599);
        Check.due("time: of 0", x.side(0, 2), 599);
        Check.due("time: of 1", x.side(1, 2), 1);
        Check.due("time: all that is left", x.hop(0, 599), 0);
        Check.due("time: none left", x.side(0, 2), 0);
        Check.due("time: one more second of 1", x.hop(0, 1), 0);
        Check.due("time: no second of 0", x.hop(0, 0), 0);
    }

    private static void hopBeyondTheClock() {
        RingDraughts x = new RingDraughts();
        Check.due("late: side 0", x.hop(0, 601), 2);
        Check.due("late: clock", x.side(0, 2), 0);
        Check.due("late: not made", x.square(12, 0), 0);
        Check.due("late: number", x.count(3), 0);
        Check.due("late: still to move", x.count(1), 0);
        Check.due("late: come", x.count(5), 1);
        Check.due("late: a change", x.count(9), 1);
        Check.due("late: no hops", x.count(2), 0);
        Check.due("late: no hop", x.hop(0, 0), NO_SUCH);
        Check.due("late: no hop, bad value", x.hop(0, -1), NO_SUCH);
        RingDraughts y = new RingDraughts();
        y.hop(0, 0);
        Check.due("late: side 1", y.hop(0, 9999), 1);
        Check.due("late: its clock", y.side(1, 2), 0);
        Check.due("late: the other clock", y.side(0, 2), 600);
    }

    private static void hopJumpsOn() {
        RingDraughts x = Check.board(0, 0, 0, 6, 2, 19, 2, 47, 0);
        Check.due("jump: the only hop", x.count(2), 1);
        Check.due("jump: first", x.hop(0, 3), 0);
        Check.due("jump: same side", x.count(1), 0);
        Check.due("jump: with this piece", x.count(4), 13);
        Check.due("jump: its jumps alone", x.count(2), 1);
        Check.due("jump: taken at once", x.square(6, 0), NONE);
        Check.due("jump: second, and nobody is left", x.hop(0, 4), 1);
        Check.due("jump: lost", x.side(1, 3), 2);
        Check.due("jump: clock", x.side(0, 2), 593);
        Check.due("jump: the other side is to move", x.count(1), 1);
        Check.due("jump: nobody jumps on", x.count(4), NONE);
    }

    private static void playAnswers() {
        RingDraughts x = new RingDraughts();
        Check.due("play -1 18", x.play(-1, 18), NO_SUCH);
        Check.due("play 12 48", x.play(12, 48), NO_SUCH);
        Check.due("play 48 -1", x.play(48, -1), NO_SUCH);
        Check.due("play min max", x.play(Integer.MIN_VALUE, Integer.MAX_VALUE), NO_SUCH);
        Check.due("play 12 NONE", x.play(12, NONE), NO_SUCH);
        Check.due("play 12 19", x.play(12, 19), NOT_POSSIBLE);
        Check.due("play 18 12", x.play(18, 12), NOT_POSSIBLE);
        Check.due("play 30 24", x.play(30, 24), NOT_POSSIBLE);
        Check.due("play: nothing changed", x.count(9), 0);
        Check.due("play 12 23", x.play(12, 23), 0);
        Check.due("play: made", x.square(23, 0), 0);
        Check.due("play: no time", x.side(0, 2), 600);
        Check.due("play: a change", x.count(9), 1);
        x.giveUp();
        Check.due("play: ended", x.play(30, 24), NOT_POSSIBLE);
        Check.due("play: ended, no square", x.play(30, 48), NO_SUCH);
        Check.due("play: how the game is then", Check.board(1, 19, 2, 13, 0).play(19, 6), 2);
    }

    /** From 0 to 13 it is over 6 in two steps, and the other way round over 47 in twenty-two. */
    private static void playTakesTheLowest() {
        RingDraughts x = Check.board(0, 0, 1, 6, 2, 47, 2);
        Check.due("lowest: one way", Check.oneIf(Check.hasHop(x, 0, 13, 2, 6)), 1);
        Check.due("lowest: the other way", Check.oneIf(Check.hasHop(x, 0, 13, 22, 47)), 1);
        x.play(0, 13);
        Check.due("lowest: taken", x.square(6, 0), NONE);
        Check.due("lowest: not taken", x.square(47, 0), 2);
    }

    private static int playText(RingDraughts x, String text) {
        Check.putText(x, text);
        return x.playAll();
    }

    private static void playAllAnswers() {
        RingDraughts x = new RingDraughts();
        Check.due("playAll: empty", x.playAll(), BAD_TEXT);
        Check.due("playAll: half a hop", playText(x, "12-"), BAD_TEXT);
        Check.due("playAll: the pad stays", x.count(8), 3);
        Check.due("playAll: no change", x.count(9), 0);
        Check.due("playAll: whole now", playText(x, "18"), 1);
        Check.due("playAll: pad", x.count(8), 0);
        Check.due("playAll: made", x.square(18, 0), 0);
        Check.due("playAll: change", x.count(9), 1);
        Check.due("playAll: three", playText(x, "30-24,18-25,31x18"), 3);
        Check.due("playAll: hops", x.count(3), 4);
        Check.due("playAll: no time", x.side(0, 2) + x.side(1, 2), 1200);
        RingDraughts y = Check.board(0, 0, 0, 6, 2, 19, 2, 47, 0);
        Check.due("playAll: jumps", playText(y, "0x13,13x26,1-2"), 2);
        Check.due("playAll: won", y.count(0), 1);
        RingDraughts z = Check.board(0, 0, 0, 24, 2);
        Check.due("playAll: numbers of one digit", playText(z, "0-6,24-18,6-12"), 3);
        Check.due("playAll: the last of them", z.square(12, 0), 0);
    }

    private static void playAllStops() {
        RingDraughts x = new RingDraughts();
        Check.due("stops: a step told as a jump", playText(x, "12x18"), 0);
        Check.due("stops: it is emptied", x.count(8), 0);
        Check.due("stops: a change all the same", x.count(9), 1);
        RingDraughts y = Check.board(0, 0, 0, 6, 2, 19, 2);
        Check.due("stops: a jump told as a step", playText(y, "0-13"), 0);
        Check.due("stops: the second one", playText(y, "0x13,13-26"), 1);
        Check.due("stops: is not made", y.count(4), 13);
        RingDraughts z = new RingDraughts();
        Check.due("stops: nothing behind the first that is not possible", playText(z, "12-18,12-18,30-24"), 1);
        Check.due("stops: where it stopped", z.square(30, 0), 2);
        RingDraughts ended = Check.board(0, 0, 0, 6, 2, 20, 0);
        Check.due("stops: when the game ends", playText(ended, "0x13,20-26"), 1);
        Check.due("stops: in an ended game", playText(ended, "20-26"), 0);
    }

    private static void playAllIsOneChange() {
        RingDraughts x = new RingDraughts();
        Check.due("one change: hops", playText(x, "12-18,30-24,13-19"), 3);
        Check.due("one change: number", x.count(9), 1);
        Check.due("one change: undo", x.undo(), 0);
        Check.due("one change: all are undone", x.count(3), 0);
        Check.due("one change: the pad stays empty", x.count(8), 0);
        Check.due("one change: the board", x.square(12, 0), 0);
    }

    private static void giveUpAnswers() {
        RingDraughts x = new RingDraughts();
        Check.due("giveUp by 0", x.giveUp(), 2);
        Check.due("giveUp: how it is", x.count(0), 2);
        Check.due("giveUp: side", x.count(1), 0);
        Check.due("giveUp: hops", x.count(2), 0);
        Check.due("giveUp: hops of a square", x.square(12, 4), 0);
        Check.due("giveUp: ofHop", x.ofHop(0, 0), NO_SUCH);
        Check.due("giveUp: changes", x.count(9), 1);
        Check.due("giveUp again", x.giveUp(), NOT_POSSIBLE);
        Check.due("giveUp: no change", x.count(9), 1);
        x.undo();
        x.hop(0, 0);
        Check.due("giveUp by 1", x.giveUp(), 1);
        x.begin(true);
        Check.due("giveUp on an empty board", x.giveUp(), NOT_POSSIBLE);
    }
}
