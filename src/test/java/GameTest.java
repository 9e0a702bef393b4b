/** Promises 1 to 5: a new object, clock, begin, set, turn. */
final class GameTest {
    private static final int NO_SUCH = -1, BAD_VALUE = -2, TOO_MANY = -4, NOT_POSSIBLE = -5, NONE = -6;

    private GameTest() {
    }

    static void run() {
        aNewObject();
        clockAnswers();
        clockIsForLaterGames();
        beginAnswers();
        beginForgetsTheGame();
        setAnswers();
        setLimitsSides();
        setBeginsAGame();
        turnAnswers();
        turnBeginsAGame();
    }

    private static void firstBoard(String run, RingDraughts x) {
        for (int square = 0; square < 48; square++) {
            int row = square / 6;
            int piece = row == 1 || row == 2 ? 0 : row == 5 || row == 6 ? 2 : NONE;
            Check.due(run + ": square " + square, x.square(square, 0), piece);
        }
    }

    private static void aNewObject() {
        RingDraughts x = new RingDraughts();
        int[] counts = {0, 0, 12, 0, NONE, 1, 0, 600, 0, 0};
        for (int what = 0; what < counts.length; what++) Check.due("new: count " + what, x.count(what), counts[what]);
        int[] sides = {12, 0, 600, 0, 12};
        for (int what = 0; what < sides.length; what++) {
            Check.due("new: side 0 " + what, x.side(0, what), sides[what]);
            Check.due("new: side 1 " + what, x.side(1, what), sides[what]);
        }
        firstBoard("new", x);
        Check.due("new: undo", x.undo(), NOT_POSSIBLE);
        Check.due("new: restore 0", x.restore(0), NOT_POSSIBLE);
        Check.due("new: restore 1", x.restore(1), NOT_POSSIBLE);
    }

    private static void clockAnswers() {
        RingDraughts x = new RingDraughts();
        int[] wrong = {Integer.MIN_VALUE, -600, -1, 0, 9, 10000, Integer.MAX_VALUE};
        for (int seconds : wrong) Check.due("clock " + seconds, x.clock(seconds), BAD_VALUE);
        Check.due("clock: nothing changed", x.count(7) * 10 + x.count(9), 6000);
        Check.due("clock 10", x.clock(10), 600);
        Check.due("clock 9999", x.clock(9999), 10);
        Check.due("clock 9999 again", x.clock(9999), 9999);
        Check.due("clock: CLOCK", x.count(7), 9999);
        Check.due("clock: changes", x.count(9), 3);
    }

    private static void clockIsForLaterGames() {
        RingDraughts x = new RingDraughts();
        x.clock(50);
        Check.due("clock: the clock that runs", x.side(0, 2), 600);
        x.hop(0, 100);
        Check.due("clock: after a hop", x.side(0, 2), 500);
        x.set(0, 1);
        x.turn(1);
        Check.due("clock: set and turn keep the clocks", x.side(0, 2), 500);
        Check.due("clock: of both", x.side(1, 2), 600);
        x.begin(false);
        Check.due("clock: of the later game, 0", x.side(0, 2), 50);
        Check.due("clock: of the later game, 1", x.side(1, 2), 50);
    }

    private static void beginAnswers() {
        RingDraughts x = new RingDraughts();
        Check.due("begin true", x.begin(true), 0);
        for (int square = 0; square < 48; square++) Check.due("begin true: square", x.square(square, 0), NONE);
        Check.due("begin true: the side without a hop has lost", x.count(0), 2);
        Check.due("begin true: no hops", x.count(2), 0);
        Check.due("begin true: side", x.count(1), 0);
        Check.due("begin true: come", x.count(5), 1);
        Check.due("begin false", x.begin(false), 24);
        firstBoard("begin false", x);
        Check.due("begin false: goes on", x.count(0), 0);
        Check.due("begin: changes", x.count(9), 2);
    }

    private static void beginForgetsTheGame() {
        RingDraughts x = Check.board(1, 13, 3, 19, 0, 32, 0);
        Check.due("begin: a jump first", x.play(13, 26), 0);
        Check.due("begin: took", x.side(0, 3), 1);
        x.begin(false);
        int[] counts = {0, 0, 12, 0, NONE, 1, 0};
        for (int what = 0; what < counts.length; what++) Check.due("begin: count " + what, x.count(what), counts[what]);
        Check.due("begin: lost", x.side(0, 3), 0);
        x.giveUp();
        Check.due("begin after giving up", x.begin(false), 24);
        Check.due("begin: goes on again", x.count(0), 0);
        x.hop(0, 600);
        x.begin(false);
        Check.due("begin: the clock is full", x.side(0, 2), 600);
    }

    private static void setAnswers() {
        RingDraughts x = new RingDraughts();
        Check.due("set -1 0", x.set(-1, 0), NO_SUCH);
        Check.due("set 48 0", x.set(48, 0), NO_SUCH);
        Check.due("set 48 9: the square first", x.set(48, 9), NO_SUCH);
        Check.due("set min", x.set(Integer.MIN_VALUE, 0), NO_SUCH);
        int[] wrong = {Integer.MIN_VALUE, -7, -5, -2, -1, 4, 5, Integer.MAX_VALUE};
        for (int piece : wrong) Check.due("set 0 " + piece, x.set(0, piece), BAD_VALUE);
        Check.due("set: nothing changed", x.count(9), 0);
        Check.due("set 0 NONE", x.set(0, NONE), NONE);
        Check.due("set 0 3", x.set(0, 3), NONE);
        Check.due("set 0 1", x.set(0, 1), 3);
        Check.due("set 0 NONE", x.set(0, NONE), 1);
        Check.due("set 6 2", x.set(6, 2), 0);
        Check.due("set 30 0", x.set(30, 0), 2);
        Check.due("set 47 1", x.set(47, 1), NONE);
        Check.due("set: piece", x.square(47, 0), 1);
        Check.due("set: men of 0", x.side(0, 0), 12);
        Check.due("set: kings of 0", x.side(0, 1), 1);
        Check.due("set: men of 1", x.side(1, 0), 12);
        Check.due("set: changes", x.count(9), 6);
    }

    private static void setLimitsSides() {
        RingDraughts x = new RingDraughts();
        for (int square = 0; square < 4; square++) Check.due("set a 13th to 16th", x.set(square, square % 2), NONE);
        Check.due("set a 17th man", x.set(4, 0), TOO_MANY);
        Check.due("set a 17th king", x.set(4, 1), TOO_MANY);
        Check.due("set a 17th over the other side", x.set(30, 0), TOO_MANY);
        Check.due("set: nothing there", x.square(4, 0), NONE);
        Check.due("set in place of one's own", x.set(0, 1), 0);
        Check.due("set one of the other side", x.set(4, 2), NONE);
        Check.due("set it in place of one of 16", x.set(1, 2), 1);
        Check.due("set the 16th again", x.set(30, 0), 2);
        Check.due("set beyond it", x.set(31, 1), TOO_MANY);
        Check.due("set NONE among 16", x.set(30, NONE), 0);
        Check.due("set an error with 16", x.set(30, 4), BAD_VALUE);
    }

    private static void setBeginsAGame() {
        RingDraughts x = new RingDraughts();
        x.hop(0, 7);
        x.hop(0, 8);
        x.hop(0, 0);
        Check.due("set: three hops", x.count(3), 3);
        x.set(47, NONE);
        Check.due("set: hops made", x.count(3), 0);
        Check.due("set: side stays", x.count(1), 1);
        Check.due("set: clock of 0 stays", x.side(0, 2), 593);
        Check.due("set: clock of 1 stays", x.side(1, 2), 592);
        x.giveUp();
        Check.due("set: given up", x.count(0), 1);
        x.set(47, NONE);
        Check.due("set: goes on again", x.count(0), 0);
        RingDraughts y = Check.board(1, 13, 3, 19, 0, 32, 0);
        y.play(13, 26);
        Check.due("set: has to jump on", y.count(4), 26);
        y.set(0, 3);
        Check.due("set: nobody has to jump on", y.count(4), NONE);
        Check.due("set: lost", y.side(0, 3), 0);
        Check.due("set: the side stays", y.count(1), 1);
        Check.due("set: the last piece of the other side away", y.set(32, NONE), 0);
        Check.due("set: it goes on, as the side to move has hops", y.count(0), 0);
        y.turn(0);
        Check.due("set: the side without pieces has lost", y.count(0), 2);
        RingDraughts z = Check.board(0, 0, 1, 1, 3);
        z.play(0, 13);
        z.play(1, 14);
        Check.due("set: quiet hops", z.count(6), 2);
        z.set(13, 1);
        Check.due("set: no quiet hops", z.count(6), 0);
        Check.due("set: the position has come once", z.count(5), 1);
    }

    private static void turnAnswers() {
        RingDraughts x = new RingDraughts();
        int[] wrong = {Integer.MIN_VALUE, -6, -1, 2, Integer.MAX_VALUE};
        for (int side : wrong) Check.due("turn " + side, x.turn(side), BAD_VALUE);
        Check.due("turn: nothing changed", x.count(9), 0);
        Check.due("turn 1", x.turn(1), 0);
        Check.due("turn: side", x.count(1), 1);
        Check.due("turn 1 again", x.turn(1), 1);
        Check.due("turn 0", x.turn(0), 1);
        Check.due("turn: changes", x.count(9), 3);
    }

    private static void turnBeginsAGame() {
        RingDraughts x = new RingDraughts();
        x.hop(0, 5);
        x.turn(0);
        Check.due("turn: hops made", x.count(3), 0);
        Check.due("turn: clock", x.side(0, 2), 595);
        Check.due("turn: come", x.count(5), 1);
        x.giveUp();
        x.turn(0);
        Check.due("turn: goes on", x.count(0), 0);
        RingDraughts y = Check.board(1, 13, 3, 19, 0, 32, 0);
        y.play(13, 26);
        y.turn(1);
        Check.due("turn: nobody has to jump on", y.count(4), NONE);
        Check.due("turn: lost", y.side(0, 3), 0);
        RingDraughts z = Check.board(0, 0, 0);
        Check.due("turn: goes on", z.count(0), 0);
        z.turn(1);
        Check.due("turn: the other side has no piece", z.count(0), 1);
    }
}
