/** A game of two kings that never meet, in which no position comes for the third time: 60 quiet hops. */
final class Quiet {
    /** Where the kings begin: the side 0 goes to and fro, the side 1 goes along a diagonal, two steps a hop. */
    static final int KING_0 = 0, BEHIND = 13, KING_1 = 1;
    /** Every second square of the diagonal; behind it the side 1 goes four steps once in each lap. */
    private static final int[] LAP = {1, 12, 29, 40, 3, 14, 25, 36, 5, 16, 27, 38};

    private Quiet() {
    }

    /** The board with the kings, and more pieces that stay away from both; the side 0 is to move. */
    static RingDraughts board(int... morePieces) {
        RingDraughts x = Check.board(0, KING_0, 1, KING_1, 3);
        for (int i = 0; i < morePieces.length; i += 2) x.set(morePieces[i], morePieces[i + 1]);
        return x;
    }

    static int kingOf0(int round) {
        return round % 2 == 0 ? KING_0 : BEHIND;
    }

    static int kingOf1(int round) {
        return LAP[(round + round / LAP.length) % LAP.length];
    }

    /** The square some steps right and up. */
    private static int up(int square, int steps) {
        int row = square / 6 + steps;
        int column = square % 6 * 2 + square / 6 % 2 + steps;
        return row % 8 * 6 + column % 12 / 2;
    }

    /** The whole game, but that both kings stand some steps farther right and up; 60 hops. */
    static void elsewhere(RingDraughts x, int steps) {
        x.begin(true);
        x.set(up(KING_0, steps), 1);
        x.set(up(KING_1, steps), 3);
        for (int round = 0; round < 30; round++) {
            x.play(up(kingOf0(round), steps), up(kingOf0(round + 1), steps));
            x.play(up(kingOf1(round), steps), up(kingOf1(round + 1), steps));
        }
        Check.due("60 quiet hops elsewhere", x.count(6), 60);
    }

    /** Makes the hops with these numbers, up to the last one alone; the hop 0 is the first one of the side 0. */
    static int hops(RingDraughts x, int first, int behindLast) {
        int state = 0;
        for (int hop = first; hop < behindLast; hop++) {
            int round = hop / 2;
            if (hop % 2 == 0) state = x.play(kingOf0(round), kingOf0(round + 1));
            else state = x.play(kingOf1(round), kingOf1(round + 1));
            Check.due("quiet hop " + hop, state, hop == 59 ? 3 : 0);
        }
        return state;
    }
}
