/** The terms: how a game ends, the clocks, and the settings. The texts stand with the promises 18 to 20. */
final class TermsEndTest {
    private static final int NO_SUCH = -1, BAD_VALUE = -2, NONE = -6;

    private TermsEndTest() {
    }

    static void run() {
        termsHowTheGameIs();
        termsSidesWithoutPieces();
        termsSidesThatAreShutIn();
        termsThirdPosition();
        termsPositionsOfTheGameAlone();
        termsSideIsPartOfThePosition();
        termsEverySquareIsPartOfThePosition();
        termsPositionsThatComeLate();
        termsSixtyQuietHops();
        termsSixtyBehindAMansHop();
        termsQuietHopsAreKings();
        termsQuietHopsTakeNothing();
        termsWinningGoesAheadOfDrawing();
        termsClocks();
        termsHopsBeyondTheClock();
        termsSettings();
    }

    private static void termsHowTheGameIs() {
        Check.sentence(0, "The game goes on (0), or has ended: the side 0 has won (1), the side 1 has won (2), or it is drawn (3).");
        Check.due("goes on", new RingDraughts().count(0), 0);
        Check.due("no piece of the side 1", Check.board(1, 0, 0).count(0), 1);
        Check.due("no piece of the side 0", Check.board(0, 0, 2).count(0), 2);
        RingDraughts x = Quiet.board();
        Quiet.hops(x, 0, 60);
        Check.due("drawn", x.count(0), 3);
    }

    private static void termsSidesWithoutPieces() {
        Check.sentence(0, "When a side is to move and has no hop, the other one has won.");
        RingDraughts x = new RingDraughts();
        x.begin(true);
        Check.due("an empty board, 0 is to move", x.count(0), 2);
        x.turn(1);
        Check.due("an empty board, 1 is to move", x.count(0), 1);
        x.set(20, 2);
        Check.due("a man of the side that is to move", x.count(0), 0);
        x.set(20, 0);
        Check.due("a man of the other side", x.count(0), 1);
        x.turn(0);
        Check.due("it is its turn", x.count(0), 0);
        RingDraughts last = Check.board(0, 0, 0, 6, 2);
        Check.due("the last piece is taken", last.hop(0, 0), 1);
        RingDraughts first = Check.board(1, 13, 2, 6, 0);
        Check.due("the last piece of 0 is taken", first.play(13, 0), 2);
    }

    private static void termsSidesThatAreShutIn() {
        Check.sentence(0, "When a side is to move and has no hop, the other one has won.");
        RingDraughts man = Check.board(0, 20, 0, 27, 2, 33, 2, 26, 2, 31, 2);
        Check.due("a man that is shut in", man.count(0), 2);
        Check.due("it has no hops", man.count(2), 0);
        man.set(33, NONE);
        Check.due("a man that can jump", man.count(0), 0);
        man.set(33, 2);
        Check.due("shut in again", man.count(0), 2);
        man.set(26, NONE);
        Check.due("a man that can step", man.count(0), 0);
        RingDraughts king = Check.board(0, 0, 1, 6, 2, 13, 2, 11, 2, 17, 2, 42, 2, 37, 2, 47, 2, 41, 2);
        Check.due("a king that is shut in", king.count(0), 2);
        king.turn(1);
        Check.due("it is not its turn", king.count(0), 0);
        RingDraughts shut = Check.board(0, 31, 2, 25, 0, 18, 0, 38, 0, 20, 0, 19, 0);
        Check.due("shut in by a hop", shut.play(19, 26), 1);
        Check.counts("shut in by a hop", shut, 1, 1, 0, 1);
        Check.side("shut in by a hop", shut, 1, 1, 0, 600, 0);
    }

    private static final int[] TO_AND_FRO = {0, 13, 1, 14, 13, 0, 14, 1};

    private static int toAndFro(RingDraughts x, int hop) {
        return x.play(TO_AND_FRO[hop % 4 * 2], TO_AND_FRO[hop % 4 * 2 + 1]);
    }

    private static void termsThirdPosition() {
        Check.sentence(0, "has come for the third time since the game began");
        RingDraughts x = Check.board(0, 0, 1, 1, 3);
        for (int hop = 0; hop < 8; hop++) {
            Check.due("come " + hop, x.count(5), hop / 4 + 1);
            Check.due("hop " + hop, toAndFro(x, hop), hop == 7 ? 3 : 0);
        }
        Check.counts("the third time", x, 3, 0, 0, 8, NONE, 3, 8);
        RingDraughts later = Check.board(0, 0, 1, 1, 3, 8, 0);
        Check.due("later: a man's hop", later.play(8, 15), 0);
        int[] sideOneFirst = {1, 0, 3, 2, 1, 0, 3, 2};
        for (int i = 0; i < 8; i++) Check.due("later: hop " + i, toAndFro(later, sideOneFirst[i]), i == 7 ? 3 : 0);
        Check.due("later: come", later.count(5), 3);
    }

    private static void termsPositionsOfTheGameAlone() {
        Check.sentence(0, "since the game began");
        RingDraughts x = Check.board(0, 0, 1, 1, 3);
        for (int hop = 0; hop < 7; hop++) toAndFro(x, hop);
        x.set(47, NONE);
        Check.due("set begins a game", x.count(5), 1);
        Check.due("what came before does not count", toAndFro(x, 7), 0);
        Check.due("come", x.count(5), 1);
        for (int hop = 0; hop < 6; hop++) Check.due("hop " + hop, toAndFro(x, hop), 0);
        Check.due("the third time of this game", toAndFro(x, 6), 3);
        x.turn(0);
        Check.counts("turn begins a game", x, 0, 0, 92, 0, NONE, 1, 0);
    }

    private static void termsSideIsPartOfThePosition() {
        Check.sentence(0, "a position (pieces, side to move, and the piece that has to jump on, if there is one)");
        RingDraughts x = Check.board(0, 0, 1, 1, 3);
        int[] hops = {0, 13, 1, 14, 13, 26, 14, 1, 26, 0};
        for (int i = 0; i < 10; i += 2) x.play(hops[i], hops[i + 1]);
        Check.counts("the first pieces, but 1 is to move", x, 0, 1, 92, 5, NONE, 1);
        int[] back = {1, 14, 0, 13, 14, 1, 13, 0};
        for (int i = 0; i < 8; i += 2) x.play(back[i], back[i + 1]);
        Check.counts("these pieces for the third time", x, 0, 1, 92, 9, NONE, 2);
        RingDraughts jump = Check.board(0, 0, 0, 6, 2, 19, 2, 44, 2);
        jump.play(0, 13);
        Check.due("behind a jump, with one to come", jump.count(5), 1);
    }

    /** Three squares of a row that a king can go round, and two that the other king goes to and fro between. */
    private static void termsEverySquareIsPartOfThePosition() {
        Check.sentence(0, "a position (pieces, side to move, and the piece that has to jump on, if there is one)");
        int[] first = {0, 6, 13, 19, 24, 30, 37, 43};
        for (int row = 0; row < 8; row++) {
            RingDraughts x = new RingDraughts();
            int here = x.step(x.step(first[row], 0), 2);
            int there = x.step(x.step(here, 2), 2);
            x.begin(true);
            x.set(first[row], 1);
            x.set(here, 3);
            for (int hop = 0; hop < 12; hop++) {
                int from = first[row] + 2 * (hop % 3);
                int to = first[row] + 2 * ((hop + 1) % 3);
                Check.due("row " + row + ": hop " + hop + " of 0", x.play(from, to), 0);
                boolean isHere = hop % 2 == 0;
                Check.due("row " + row + ": hop " + hop + " of 1", x.play(isHere ? here : there, isHere ? there : here), hop == 11 ? 3 : 0);
                Check.due("row " + row + ": come " + hop, x.count(5), hop == 11 ? 3 : hop >= 5 ? 2 : 1);
            }
        }
    }

    /** The king of the side 1 takes the man behind 58 quiet hops, and both kings go to and fro then. */
    private static void termsPositionsThatComeLate() {
        Check.sentence(0, "has come for the third time since the game began");
        RingDraughts x = Quiet.board(2, 0);
        Quiet.hops(x, 0, 58);
        x.play(2, 8);
        Check.due("it is taken", x.hop(0, 0), 0);
        Check.due("by a king that comes to 14", x.square(14, 0), 3);
        int[] squares = {13, 0, 14, 1, 0, 13, 1, 14};
        for (int hop = 0; hop < 8; hop++) {
            Check.due("come " + hop, x.count(5), hop / 4 + 1);
            Check.due("hop " + hop, x.play(squares[hop % 4 * 2], squares[hop % 4 * 2 + 1]), hop == 7 ? 3 : 0);
        }
        Check.counts("the third time", x, 3, 0, 0, 68, NONE, 3, 8);
    }

    private static void termsSixtyQuietHops() {
        Check.sentence(0, "or when 60 hops in a row were made by kings, without taking");
        RingDraughts x = Quiet.board();
        Quiet.hops(x, 0, 59);
        Check.due("59: quiet", x.count(6), 59);
        Check.due("59: goes on", x.count(0), 0);
        Quiet.hops(x, 59, 60);
        Check.due("60: quiet", x.count(6), 60);
        Check.due("60: drawn", x.count(0), 3);
        Check.due("60: no position for the third time", Check.oneIf(x.count(5) < 3), 1);
        Check.due("60: no hop", x.hop(0, 0), NO_SUCH);
        x.undo();
        x.set(47, NONE);
        Check.due("a new game: none", x.count(6), 0);
    }

    private static void termsSixtyBehindAMansHop() {
        Check.sentence(0, "or when 60 hops in a row were made by kings, without taking");
        RingDraughts x = Check.board(0, Quiet.BEHIND, 1, Quiet.KING_1, 3, 8, 0);
        Check.due("a man's hop", x.play(8, 15), 0);
        for (int hop = 0; hop < 60; hop++) {
            Check.due("ahead of " + hop, x.count(6), hop);
            int round = hop / 2;
            int state = hop % 2 == 0 ? x.play(Quiet.kingOf1(round), Quiet.kingOf1(round + 1))
                : x.play(Quiet.kingOf0(round + 1), hop == 59 ? 26 : Quiet.kingOf0(round));
            Check.due("the quiet hop " + hop, state, hop == 59 ? 3 : 0);
        }
        Check.counts("drawn by them, in a position that comes for the first time", x, 3, 1, 0, 61, NONE, 1, 60);
    }

    private static void termsQuietHopsAreKings() {
        Check.sentence(0, "60 hops in a row were made by kings");
        RingDraughts x = Quiet.board(2, 0);
        Quiet.hops(x, 0, 58);
        Check.due("a man's hop behind 58", x.play(2, 8), 0);
        Check.due("none in a row", x.count(6), 0);
        Check.due("come once", x.count(5), 1);
        RingDraughts crowned = Check.board(0, 43, 0, 3, 3);
        Check.due("a man's hop by which it becomes a king", crowned.play(43, 2), 0);
        Check.due("none in a row", crowned.count(6), 0);
        crowned.play(3, 9);
        Check.due("a king's hop behind it", crowned.count(6), 1);
    }

    private static void termsQuietHopsTakeNothing() {
        Check.sentence(0, "in a row were made by kings, without taking");
        RingDraughts x = Quiet.board(2, 0);
        Quiet.hops(x, 0, 58);
        Check.due("the 59th comes near", x.play(Quiet.kingOf0(29), 6), 0);
        Check.due("59 in a row", x.count(6), 59);
        Check.due("the 60th has to take", x.ofHop(0, 4), 6);
        Check.due("the 60th does not draw", x.hop(0, 0), 0);
        Check.due("none in a row", x.count(6), 0);
        Check.due("taken", x.side(0, 3), 1);
    }

    /** Found by a search backwards: the sixtieth quiet hop shuts the last king of the side 1 in. */
    private static void termsWinningGoesAheadOfDrawing() {
        Check.sentence(0, "Winning goes ahead of drawing.");
        RingDraughts x = Check.board(1, 1, 1, 8, 0, 11, 1, 12, 0, 13, 3, 15, 0, 24, 0, 25, 1, 30, 0, 31, 0, 33, 1,
            35, 0, 36, 0, 38, 0, 39, 0, 45, 0);
        int[] hops = {
            13, 2, 11, 22, 2, 13, 1, 14, 13, 19, 33, 46, 19, 41, 46, 20, 41, 19, 22, 11, 19, 13, 20, 33, 13, 19,
            33, 46, 19, 13, 11, 33, 13, 19, 33, 27, 19, 41, 46, 9, 41, 13, 27, 33, 13, 19, 33, 46, 19, 41, 46, 40,
            41, 19, 9, 29, 19, 34, 29, 23, 34, 19, 40, 46, 19, 41, 23, 4, 41, 19, 4, 17, 19, 41, 46, 20, 41, 19,
            20, 46, 19, 41, 46, 9, 41, 26, 17, 37, 26, 19, 9, 29, 19, 13, 37, 33, 13, 19, 33, 11, 19, 13, 11, 33,
            13, 19, 33, 11, 19, 13, 29, 44, 13, 18, 25, 19, 18, 25, 44, 18,
        };
        for (int i = 0; i < 60; i++) {
            Check.due("hop " + i, x.play(hops[2 * i], hops[2 * i + 1]), i == 59 ? 1 : 0);
            Check.due("quiet hops", x.count(6), i + 1);
        }
        Check.due("won", x.count(0), 1);
    }

    private static void termsClocks() {
        Check.sentence(0, "Each side has a clock (setting CLOCK at the beginning of a game).");
        RingDraughts x = new RingDraughts();
        x.clock(10);
        x.begin(false);
        Check.due("of 0", x.side(0, 2), 10);
        Check.due("of 1", x.side(1, 2), 10);
        x.hop(0, 3);
        x.hop(0, 4);
        Check.due("of 0, behind a hop", x.side(0, 2), 7);
        Check.due("of 1, behind a hop", x.side(1, 2), 6);
        x.clock(9999);
        x.begin(true);
        Check.due("of 0, in the next game", x.side(0, 2), 9999);
        Check.due("of 1, in the next game", x.side(1, 2), 9999);
    }

    private static void termsHopsBeyondTheClock() {
        Check.sentence(0, "A hop that uses up more seconds than the clock of its side has left is not made: "
            + "the other side has won by that (and the clock is 0).");
        RingDraughts x = new RingDraughts();
        Check.due("all that is left", x.hop(0, 600), 0);
        Check.due("it is made", x.count(3), 1);
        Check.due("the clock is empty", x.side(0, 2), 0);
        Check.due("one second too many", x.hop(0, 601), 1);
        Check.counts("one second too many", x, 1, 1, 0, 1, NONE, 1, 0);
        Check.side("one second too many", x, 1, 12, 0, 0, 0);
        Check.due("the piece stands where it was", x.square(30, 0), 2);
        x.undo();
        Check.due("no second is no time", x.hop(0, 0), 0);
        Check.due("none with an empty clock", x.hop(0, 0), 0);
        x.hop(0, 0);
        Check.due("one with an empty clock", x.hop(0, 1), 2);
        RingDraughts jump = Check.board(0, 0, 0, 6, 2, 19, 2);
        jump.hop(0, 1);
        Check.due("the second jump is too late", jump.hop(0, 600), 2);
        Check.side("the second jump is too late", jump, 0, 1, 0, 0, 0);
        Check.due("its piece is not taken", jump.square(19, 0), 2);
    }

    private static void termsSettings() {
        Check.sentence(0, "CLOCK (10 to 9999; 600 at first).");
        RingDraughts x = new RingDraughts();
        Check.due("at first", x.count(7), 600);
        Check.due("9", x.clock(9), BAD_VALUE);
        Check.due("10000", x.clock(10000), BAD_VALUE);
        Check.due("10", x.clock(10), 600);
        Check.due("9999", x.clock(9999), 10);
        Check.due("the setting", x.count(7), 9999);
    }
}
