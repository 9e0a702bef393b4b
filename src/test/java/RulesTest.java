/** The terms: how pieces hop, and how a game ends. */
final class RulesTest {
    private static final int NO_SUCH = -1, NOT_POSSIBLE = -5, NONE = -6;

    private RulesTest() {
    }

    static void run() {
        menGoAhead();
        menGoRound();
        menBecomeKings();
        kingsGoOnDiagonals();
        kingsStopAtPieces();
        kingsJump();
        kingsJumpRoundTheTorus();
        jumpsHaveToBeMade();
        onePieceJumpsOn();
        aNewKingJumpsOnAsAKing();
        sidesWithoutHopsLose();
        thirdPositionDraws();
        whatMakesAPosition();
        sixtyQuietHopsDraw();
        quietHopsAreKingsAndTakeNothing();
    }

    private static void menGoAhead() {
        RingDraughts x = Check.board(0, 13, 0, 38, 2);
        Check.due("men of 0: hops", x.count(2), 2);
        Check.due("men of 0: right", Check.oneIf(Check.hasHop(x, 13, 19, 1, NONE)), 1);
        Check.due("men of 0: left", Check.oneIf(Check.hasHop(x, 13, 18, 1, NONE)), 1);
        x.turn(1);
        Check.due("men of 1: hops", x.count(2), 2);
        Check.due("men of 1: right", Check.oneIf(Check.hasHop(x, 38, 32, 1, NONE)), 1);
        Check.due("men of 1: left", Check.oneIf(Check.hasHop(x, 38, 31, 1, NONE)), 1);
        RingDraughts y = Check.board(0, 13, 0, 19, 0, 18, 2, 24, 2);
        Check.due("men: not onto pieces", y.square(13, 4), 0);
    }

    private static void menGoRound() {
        RingDraughts x = Check.board(0, 12, 0, 11, 0);
        Check.due("round: from the column 0 to 11", Check.oneIf(Check.hasHop(x, 12, 23, 1, NONE)), 1);
        Check.due("round: from the column 11 to 10", Check.oneIf(Check.hasHop(x, 11, 17, 1, NONE)), 1);
        Check.due("round: no hop onto one's own", x.play(11, 12), NOT_POSSIBLE);
        RingDraughts y = Check.board(0, 6, 0, 12, 2);
        Check.due("round: a jump over the side", Check.oneIf(Check.hasHop(y, 6, 23, 2, 12)), 1);
    }

    private static void crowns(int side, int from, int to, int taken, boolean isCrowned) {
        int man = side == 0 ? 0 : 2;
        RingDraughts x = Check.board(side, from, man, taken == NONE ? 20 : taken, 2 - man, 21, 2 - man);
        x.play(from, to);
        Check.due("king from " + from + " to " + to, x.square(to, 0), isCrowned ? man + 1 : man);
    }

    private static void menBecomeKings() {
        crowns(0, 42, 1, NONE, true);
        crowns(0, 42, 0, NONE, true);
        crowns(0, 36, 42, NONE, false);
        crowns(0, 0, 6, NONE, false);
        crowns(0, 36, 1, 42, true);
        crowns(0, 42, 7, 1, true);
        crowns(0, 30, 43, 37, false);
        crowns(0, 0, 13, 6, false);
        crowns(1, 0, 42, NONE, true);
        crowns(1, 0, 47, NONE, true);
        crowns(1, 6, 0, NONE, false);
        crowns(1, 42, 36, NONE, false);
        crowns(1, 6, 43, 1, true);
        crowns(1, 0, 37, 42, true);
        crowns(1, 42, 31, 37, false);
        crowns(1, 13, 0, 6, false);
    }

    private static void kingsGoOnDiagonals() {
        RingDraughts x = Check.board(0, 0, 1, 1, 3);
        Check.due("kings: hops", x.count(2), 92);
        int hop = 0;
        for (int way = 0; way < 4; way++) {
            int to = 0;
            for (int steps = 1; steps <= 23; steps++) {
                to = x.step(to, way);
                Check.due("kings: way", x.ofHop(hop, 2), way);
                Check.due("kings: steps", x.ofHop(hop, 3), steps);
                Check.due("kings: to", x.ofHop(hop, 1), to);
                hop++;
            }
        }
        Check.due("kings: may go back", Check.oneIf(Check.hasHop(x, 0, 42, 1, NONE)), 1);
    }

    private static void kingsStopAtPieces() {
        RingDraughts x = Check.board(0, 0, 1, 13, 0, 1, 3);
        Check.due("stop: one step", Check.oneIf(Check.hasHop(x, 0, 6, 1, NONE)), 1);
        Check.due("stop: from behind to 19", Check.oneIf(Check.hasHop(x, 0, 19, 21, NONE)), 1);
        Check.due("stop: not over one's own", Check.oneIf(Check.hasHop(x, 0, 19, 3, NONE)), 0);
        Check.due("stop: hops of the king", x.square(0, 4), 44);
        RingDraughts two = Check.board(0, 0, 1, 6, 2, 13, 2);
        Check.due("stop: no jump over two", two.square(6, 3), 0);
        Check.due("stop: over the second on the other diagonal, from both sides", two.square(0, 4), 13 + 9);
    }

    private static void kingsJump() {
        RingDraughts x = Check.board(0, 0, 1, 19, 2, 39, 0);
        Check.due("king's jumps: to 26", Check.oneIf(Check.hasHop(x, 0, 26, 4, 19)), 1);
        Check.due("king's jumps: to 32", Check.oneIf(Check.hasHop(x, 0, 32, 5, 19)), 1);
        Check.due("king's jumps: no others", x.count(2), 2);
        x.play(0, 32);
        Check.due("king's jumps: taken", x.square(19, 0), NONE);
        Check.due("king's jumps: where it is", x.square(32, 0), 1);
        Check.due("king's jumps: where it was", x.square(0, 0), NONE);
    }

    /** On its lap the king comes from 47 back to its own square. */
    private static void kingsJumpRoundTheTorus() {
        RingDraughts x = Check.board(0, 0, 1, 47, 2);
        Check.due("lap: one step back, 22 squares behind it", x.count(2), 22);
        Check.due("lap: not over it to its own square", Check.oneIf(Check.hasHop(x, 0, 0, 24, 47)), 0);
        RingDraughts y = Check.board(0, 0, 1, 6, 2);
        Check.due("lap: far round", y.count(2), 22);
        Check.due("lap: its longest", y.ofHop(21, 3), 23);
        Check.due("lap: comes to the last square", y.ofHop(21, 1), 47);
        RingDraughts z = Check.board(0, 0, 1, 47, 3, 42, 1);
        Check.due("lap: two steps back", Check.oneIf(Check.hasHop(z, 0, 41, 2, 47)), 1);
    }

    private static void jumpsHaveToBeMade() {
        RingDraughts x = Check.board(0, 0, 0, 6, 2, 20, 1, 3, 0);
        Check.due("forced: only jumps", x.count(2), 1);
        Check.due("forced: no step of another piece", x.play(3, 9), NOT_POSSIBLE);
        Check.due("forced: no step of the king", x.play(20, 26), NOT_POSSIBLE);
        Check.due("forced: the jump", x.play(0, 13), 1);
    }

    private static void onePieceJumpsOn() {
        RingDraughts x = Check.board(0, 0, 0, 6, 2, 18, 2, 3, 0, 9, 2, 44, 2);
        Check.due("jumps on: two pieces can", x.count(2), 2);
        x.play(0, 13);
        Check.due("jumps on: same side", x.count(1), 0);
        Check.due("jumps on: piece", x.count(4), 13);
        Check.due("jumps on: not with another one", x.play(3, 16), NOT_POSSIBLE);
        Check.due("jumps on: the left way", x.play(13, 24), 0);
        Check.due("jumps on: over", x.count(4), NONE);
        Check.due("jumps on: the other side", x.count(1), 1);
        RingDraughts step = Check.board(0, 0, 0, 13, 2, 44, 2);
        step.play(0, 6);
        Check.due("jumps on: not behind a step", step.count(1), 1);
    }

    private static void aNewKingJumpsOnAsAKing() {
        RingDraughts x = Check.board(0, 36, 0, 42, 2, 26, 2);
        Check.due("new king: jumps", x.play(36, 1), 0);
        Check.due("new king: is one", x.square(1, 0), 1);
        Check.due("new king: 26 is on none of its diagonals", x.count(4), NONE);
        RingDraughts z = Check.board(0, 47, 0, 0, 2, 24, 2);
        Check.due("new king: first jump", z.play(47, 6), 0);
        Check.due("new king: jumps on", z.count(4), 6);
        Check.due("new king: eleven steps away", z.ofHop(0, 4), 24);
        Check.due("new king: twelve steps", z.ofHop(0, 3), 12);
    }

    private static void sidesWithoutHopsLose() {
        RingDraughts x = Check.board(0, 0, 0, 6, 2, 11, 2, 13, 2, 17, 2);
        Check.due("stuck: side 0", x.count(0), 2);
        Check.due("stuck: no hops", x.count(2), 0);
        Check.due("stuck: giveUp", x.giveUp(), NOT_POSSIBLE);
        x.turn(1);
        Check.due("stuck: not the other one", x.count(0), 0);
        RingDraughts shut = Check.board(0, 31, 2, 25, 0, 18, 0, 38, 0, 20, 0, 19, 0);
        Check.due("stuck: shut in by a hop", shut.play(19, 26), 1);
        Check.due("stuck: is to move", shut.count(1), 1);
        RingDraughts last = Check.board(1, 19, 2, 13, 0);
        Check.due("stuck: no piece left", last.hop(0, 0), 2);
        Check.due("stuck: ended", last.hop(0, 0), NO_SUCH);
    }

    /** The kings stand on diagonals of their own, and go to and fro. */
    private static void thirdPositionDraws() {
        RingDraughts x = Check.board(0, 0, 1, 1, 3);
        int[] hops = {0, 13, 1, 14, 13, 0, 14, 1};
        int[] come = {1, 1, 1, 2, 2, 2, 2, 3};
        for (int i = 0; i < 8; i++) {
            int to = 2 * (i % 4);
            Check.due("third: hop " + i, x.play(hops[to], hops[to + 1]), i == 7 ? 3 : 0);
            Check.due("third: come " + i, x.count(5), come[i]);
        }
        Check.due("third: no hops", x.count(2), 0);
        Check.due("third: no play", x.play(0, 13), NOT_POSSIBLE);
        Check.due("third: no giving up", x.giveUp(), NOT_POSSIBLE);
        Check.due("third: danger", x.square(0, 3), 0);
    }

    private static void whatMakesAPosition() {
        RingDraughts x = Check.board(0, 0, 1, 1, 3);
        x.play(0, 13);
        x.play(1, 14);
        x.play(13, 26);
        x.play(14, 1);
        x.play(26, 0);
        Check.due("position: another side is to move", x.count(5), 1);
        x.set(2, 0);
        x.set(2, NONE);
        Check.due("position: of this game alone", x.count(5), 1);
        RingDraughts y = Check.board(0, 0, 1, 1, 3, 15, 0);
        y.play(0, 13);
        y.play(1, 14);
        y.play(13, 0);
        y.play(14, 1);
        Check.due("position: twice", y.count(5), 2);
        y.play(15, 21);
        Check.due("position: a man has gone", y.count(5), 1);
    }

    /** One king goes on in even hops, the other one faster from its ninth on, so that no position comes thrice. */
    private static void sixtyQuietHopsDraw() {
        RingDraughts x = Check.board(0, 0, 1, 1, 3);
        int one = 0;
        int other = 1;
        for (int i = 0; i < 30; i++) {
            Check.due("quiet: goes on " + i, x.count(0), 0);
            int to = x.step(x.step(one, 0), 0);
            Check.due("quiet: hop of 0", x.play(one, to), 0);
            one = to;
            Check.due("quiet: number", x.count(6), 2 * i + 1);
            to = other;
            for (int steps = i < 8 ? 2 : 4; steps > 0; steps--) to = x.step(to, 1);
            Check.due("quiet: hop of 1", x.play(other, to), i == 29 ? 3 : 0);
            other = to;
        }
        Check.due("quiet: sixty", x.count(6), 60);
        Check.due("quiet: hops", x.count(3), 60);
        Check.due("quiet: not by positions", Check.oneIf(x.count(5) < 3), 1);
        Check.due("quiet: no hop", x.hop(0, 0), NO_SUCH);
        x.undo();
        Check.due("quiet: undone", x.count(0) * 100 + x.count(6), 59);
    }

    private static void quietHopsAreKingsAndTakeNothing() {
        RingDraughts x = Check.board(0, 0, 1, 1, 3, 2, 0);
        x.play(0, 13);
        x.play(1, 14);
        Check.due("quiet: two", x.count(6), 2);
        x.play(2, 8);
        Check.due("quiet: a man's hop", x.count(6), 0);
        RingDraughts crowned = Check.board(0, 42, 0, 33, 3);
        crowned.play(42, 0);
        Check.due("quiet: a man that becomes a king", crowned.count(6), 0);
        RingDraughts taking = Check.board(1, 1, 3, 0, 1, 19, 2);
        taking.play(1, 14);
        Check.due("quiet: one", taking.count(6), 1);
        taking.play(0, 26);
        Check.due("quiet: a king that takes", taking.count(6), 0);
    }
}
