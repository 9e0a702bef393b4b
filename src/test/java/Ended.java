/** Games that have ended in every way that there is. */
final class Ended {
    static final int KINDS = 6;
    private static final String[] NAMES = {
        "giving up", "a hop beyond the clock", "a last piece that was taken", "a position that came thrice", "60 quiet hops",
        "the side 1 giving up",
    };
    /** How the games are then. */
    static final int[] HOW = {2, 2, 1, 3, 3, 1};

    private Ended() {
    }

    static String name(int kind) {
        return NAMES[kind];
    }

    /** A side that has lost; for a game that is drawn, any one. */
    static int loser(int kind) {
        return HOW[kind] == 2 ? 0 : 1;
    }

    static RingDraughts game(int kind) {
        RingDraughts x;
        switch (kind) {
            case 0:
                x = new RingDraughts();
                x.giveUp();
                break;
            case 1:
                x = new RingDraughts();
                x.hop(3, 601);
                break;
            case 2:
                x = Check.board(0, 0, 0, 6, 2);
                x.play(0, 13);
                break;
            case 3:
                x = Check.board(0, 0, 1, 1, 3);
                for (int i = 0; i < 2; i++) {
                    x.play(0, 13);
                    x.play(1, 14);
                    x.play(13, 0);
                    x.play(14, 1);
                }
                break;
            case 4:
                x = Quiet.board();
                Quiet.hops(x, 0, 60);
                break;
            default:
                x = new RingDraughts();
                x.hop(0, 0);
                x.giveUp();
                break;
        }
        Check.due(NAMES[kind], x.count(0), HOW[kind]);
        return x;
    }
}
