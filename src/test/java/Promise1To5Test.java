/** The promises 1 to 5, sentence by sentence: a new object, clock, begin, set, turn. */
final class Promise1To5Test {
    private static final int NO_SUCH = -1, BAD_VALUE = -2, BAD_TEXT = -3, TOO_MANY = -4, NOT_POSSIBLE = -5, NONE = -6;

    private Promise1To5Test() {
    }

    static void run() {
        promise1BeginsAGame();
        promise2IsForLaterGames();
        promise2IsAChange();
        promise2PreviousValue();
        promise2OutOfRange();
        promise3BeginsAnew();
        promise3IsAChange();
        promise3IsEmpty();
        promise3HowManyPieces();
        promise4SetsOrTakesAway();
        promise4IsANewGame();
        promise4ClocksAndSideStay();
        promise4NobodyHasToJumpOn();
        promise4IsAChange();
        promise4PieceThatWasThere();
        promise4NoSuchSquare();
        promise4PieceOutOfRange();
        promise4MoreThan16();
        promise4MoreThan16OfTheSide1();
        promise5IsANewGame();
        promise5IsAChange();
        promise5SideThatWasToMove();
        promise5NeitherSide();
    }

    private static void promise1BeginsAGame() {
        Check.sentence(1, "Begins a game.");
        RingDraughts x = new RingDraughts();
        Check.counts("new", x, 0, 0, 12, 0, NONE, 1, 0, 600, 0, 0);
        Check.side("new", x, 0, 12, 0, 600, 0, 12);
        Check.side("new", x, 1, 12, 0, 600, 0, 12);
        Check.due("new: an empty pad", x.fault(), 0);
        Check.due("new: nothing to play", x.playAll(), BAD_TEXT);
        Check.due("new: nothing to wipe", x.wipe(), 0);
        Check.due("new: nothing to undo", x.undo(), NOT_POSSIBLE);
        Check.due("new: nothing in the slot 0", x.restore(0), NOT_POSSIBLE);
        Check.due("new: nothing in the slot 1", x.restore(1), NOT_POSSIBLE);
        RingDraughts anew = new RingDraughts();
        anew.hop(0, 1);
        anew.begin(false);
        Check.same("new: as begun anew", State.ofGame(new RingDraughts()), State.ofGame(anew));
    }

    private static void promise2IsForLaterGames() {
        Check.sentence(2, "Changes CLOCK (for games that begin later).");
        RingDraughts x = new RingDraughts();
        x.hop(0, 100);
        x.clock(10);
        Check.due("CLOCK", x.count(7), 10);
        Check.due("the clock of 0 in this game", x.side(0, 2), 500);
        Check.due("the clock of 1 in this game", x.side(1, 2), 600);
        Check.due("this game goes on as it was", x.count(3), 1);
        Check.due("more seconds than CLOCK in this game", x.hop(0, 600), 0);
        x.begin(false);
        Check.due("the clock of 0 in the later game", x.side(0, 2), 10);
        Check.due("the clock of 1 in the later game", x.side(1, 2), 10);
        Check.due("more than that", x.hop(0, 11), 2);
        x.begin(false);
        Check.due("CLOCK stays for every later game", x.side(0, 2), 10);
    }

    private static void promise2IsAChange() {
        Check.sentence(2, "This is a change.");
        Check.change("another value", new RingDraughts(), x -> x.clock(9999));
        Check.change("the same value", new RingDraughts(), x -> x.clock(600));
        RingDraughts y = new RingDraughts();
        y.clock(700);
        y.clock(800);
        y.undo();
        Check.due("CLOCK is undone", y.count(7), 700);
        y.undo();
        Check.due("CLOCK is undone again", y.count(7), 600);
    }

    private static void promise2PreviousValue() {
        Check.sentence(2, "Returns the previous value");
        RingDraughts x = new RingDraughts();
        Check.due("the first", x.clock(10), 600);
        Check.due("the least", x.clock(9999), 10);
        Check.due("the greatest", x.clock(601), 9999);
        Check.due("the same", x.clock(601), 601);
    }

    private static void promise2OutOfRange() {
        Check.sentence(2, "BAD_VALUE if it is out of range.");
        RingDraughts x = new RingDraughts();
        int[] wrong = {9, 10000, 0, -1, -10, -600, Integer.MIN_VALUE, Integer.MAX_VALUE, 1 << 16 | 600};
        for (int seconds : wrong) Check.due("clock " + seconds, x.clock(seconds), BAD_VALUE);
        Check.due("CLOCK", x.count(7), 600);
        Check.due("no change", x.count(9), 0);
        Check.due("the least that is in range", x.clock(10), 600);
        Check.due("the greatest that is in range", x.clock(9999), 10);
    }

    private static void promise3BeginsAnew() {
        Check.sentence(3, "Begins a game anew.");
        String first = State.ofGame(new RingDraughts());
        for (int kind = 0; kind < Ended.KINDS; kind++) {
            RingDraughts x = Ended.game(kind);
            x.begin(false);
            Check.same("behind " + Ended.name(kind), State.ofGame(x), first);
        }
        RingDraughts jump = Check.board(1, 13, 3, 19, 0, 32, 0);
        jump.hop(0, 5);
        Check.due("amidst jumps", jump.count(4), 26);
        jump.begin(false);
        Check.same("behind a jump", State.ofGame(jump), first);
        RingDraughts x = new RingDraughts();
        x.save(0);
        Check.putText(x, "1-2");
        x.begin(true);
        x.begin(true);
        Check.due("the pad stays", x.count(8), 3);
        Check.due("the history stays", x.count(9), 2);
        Check.due("the slots stay", x.restore(0), 0);
        Check.due("a slot has its game", x.side(0, 0), 12);
    }

    private static void promise3IsAChange() {
        Check.sentence(3, "This is a change.");
        Check.change("the same game", new RingDraughts(), x -> x.begin(false));
        Check.change("an empty board", new RingDraughts(), x -> x.begin(true));
        Check.change("a full history", Check.board(0, 1, 0, 2, 0, 3, 0, 44, 3, 45, 3), x -> x.begin(false));
    }

    private static void promise3IsEmpty() {
        Check.sentence(3, "`isEmpty`: whether the board is empty at its beginning");
        RingDraughts x = new RingDraughts();
        x.turn(1);
        x.begin(true);
        for (int square = 0; square < 48; square++) Check.due("empty: " + square, x.square(square, 0), NONE);
        Check.counts("empty: the side 0 is to move and can't", x, 2, 0, 0, 0, NONE, 1, 0);
        x.begin(false);
        for (int square = 0; square < 48; square++) {
            int want = square >= 6 && square < 18 ? 0 : square >= 30 && square < 42 ? 2 : NONE;
            Check.due("not empty: " + square, x.square(square, 0), want);
        }
    }

    private static void promise3HowManyPieces() {
        Check.sentence(3, "Returns how many pieces there are.");
        RingDraughts x = new RingDraughts();
        Check.due("empty", x.begin(true), 0);
        Check.due("empty again", x.begin(true), 0);
        Check.due("not empty", x.begin(false), 24);
        x.set(0, 1);
        Check.due("not empty again", x.begin(false), 24);
    }

    private static void promise4SetsOrTakesAway() {
        Check.sentence(4, "Sets a piece on a square, in place of what is there, or takes it away.");
        RingDraughts x = Check.board(0, 20, 0, 44, 2);
        for (int before = -1; before < 4; before++) {
            for (int piece = -1; piece < 4; piece++) {
                x.set(0, before < 0 ? NONE : before);
                x.set(0, piece < 0 ? NONE : piece);
                Check.due("in place of " + before, x.square(0, 0), piece < 0 ? NONE : piece);
                Check.side("in place of " + before, x, 0, piece == 0 ? 2 : 1, piece == 1 ? 1 : 0);
                Check.side("in place of " + before, x, 1, piece == 2 ? 2 : 1, piece == 3 ? 1 : 0);
            }
        }
        x.set(47, 3);
        Check.due("the last square", x.square(47, 0), 3);
        Check.due("no other square", x.square(46, 0), NONE);
        x.set(47, NONE);
        Check.due("taken away from the last square", x.square(47, 0), NONE);
    }

    private static void promise4IsANewGame() {
        Check.sentence(4, "It is a new game then, which begins with this position");
        RingDraughts x = Quiet.board();
        Quiet.hops(x, 0, 26);
        Check.counts("before", x, 0, 0, 92, 26, NONE, 1, 26);
        x.set(47, NONE);
        Check.counts("a new game, though nothing is different", x, 0, 0, 92, 0, NONE, 1, 0);
        RingDraughts step = new RingDraughts();
        step.hop(0, 0);
        step.set(47, NONE);
        Check.due("the position of now comes for the first time in the new game", step.count(5), 1);
        RingDraughts lost = Check.board(0, 0, 0, 6, 2, 44, 2);
        lost.play(0, 13);
        Check.due("lost before", lost.side(1, 3), 1);
        lost.set(20, 3);
        Check.side("nothing is lost in the new game", lost, 1, 1, 1, 600, 0);
        for (int kind = 0; kind < Ended.KINDS; kind++) {
            RingDraughts ended = Ended.game(kind);
            int side = ended.count(1);
            ended.set(20, side == 0 ? 1 : 3);
            Check.due("goes on behind " + Ended.name(kind), ended.count(0), 0);
        }
        RingDraughts left = Check.board(0, 20, 0, 44, 2);
        left.set(20, NONE);
        Check.due("ends at once if the side to move has no piece", left.count(0), 2);
        left.set(20, 0);
        left.set(44, NONE);
        Check.due("goes on if the other one has none", left.count(0), 0);
    }

    private static void promise4ClocksAndSideStay() {
        Check.sentence(4, "(the clocks, and the side to move, stay)");
        RingDraughts x = new RingDraughts();
        x.hop(0, 1);
        x.hop(0, 22);
        x.hop(0, 3);
        x.clock(77);
        x.set(0, 3);
        Check.due("the side", x.count(1), 1);
        Check.due("the clock of 0", x.side(0, 2), 596);
        Check.due("the clock of 1", x.side(1, 2), 578);
        x.hop(0, 9999);
        x.set(0, NONE);
        Check.due("the side behind a hop beyond the clock", x.count(1), 1);
        Check.due("the empty clock", x.side(1, 2), 0);
        Check.due("how it is", x.count(0), 0);
    }

    private static void promise4NobodyHasToJumpOn() {
        Check.sentence(4, "It is a new game then");
        RingDraughts x = Check.board(0, 0, 0, 6, 2, 19, 2, 3, 0, 9, 2);
        x.play(0, 13);
        Check.due("before", x.count(2), 1);
        x.set(47, NONE);
        Check.counts("any piece may jump in the new game", x, 0, 0, 2, 0, NONE, 1);
    }

    private static void promise4IsAChange() {
        Check.sentence(4, "This is a change.");
        Check.change("a piece", new RingDraughts(), x -> x.set(0, 3));
        Check.change("the piece that is there", new RingDraughts(), x -> x.set(6, 0));
        Check.change("nothing where nothing is", new RingDraughts(), x -> x.set(0, NONE));
        RingDraughts amidst = new RingDraughts();
        amidst.hop(0, 5);
        amidst.hop(0, 6);
        Check.change("amidst a game", amidst, x -> x.set(6, NONE));
    }

    private static void promise4PieceThatWasThere() {
        Check.sentence(4, "Returns the piece that was there (NONE)");
        RingDraughts x = new RingDraughts();
        Check.due("nothing", x.set(47, 3), NONE);
        for (int piece = 3; piece >= 0; piece--) {
            Check.due("piece " + piece, x.set(47, piece == 0 ? NONE : piece - 1), piece);
        }
        Check.due("nothing again", x.set(47, NONE), NONE);
        Check.due("the first square", x.set(0, NONE), NONE);
    }

    private static void promise4NoSuchSquare() {
        Check.sentence(4, "NO_SUCH if there is no such square");
        RingDraughts x = new RingDraughts();
        int[] wrong = {-1, 48, 49, NONE, 96, Integer.MIN_VALUE, Integer.MAX_VALUE};
        for (int square : wrong) {
            Check.due("set " + square + " 0", x.set(square, 0), NO_SUCH);
            Check.due("set " + square + " NONE", x.set(square, NONE), NO_SUCH);
            Check.due("set " + square + " 4", x.set(square, 4), NO_SUCH);
        }
        Check.due("no change", x.count(9), 0);
        Check.due("the first one", x.set(0, 2), NONE);
        Check.due("the last one", x.set(47, 2), NONE);
    }

    private static void promise4PieceOutOfRange() {
        Check.sentence(4, "BAD_VALUE if piece is out of range");
        RingDraughts x = new RingDraughts();
        int[] wrong = {-1, -2, -3, -4, -5, -7, 4, 5, 8, Integer.MIN_VALUE, Integer.MAX_VALUE};
        for (int piece : wrong) {
            Check.due("set 0 " + piece, x.set(0, piece), BAD_VALUE);
            Check.due("set 6 " + piece, x.set(6, piece), BAD_VALUE);
        }
        Check.due("no change", x.count(9), 0);
        Check.due("a free square stays free", x.square(0, 0), NONE);
        Check.due("a piece stays", x.square(6, 0), 0);
        Check.sentence(4, "`piece`: 0 to 3, or NONE");
        Check.due("the least", x.set(0, 0), NONE);
        Check.due("the greatest", x.set(0, 3), 0);
        Check.due("NONE", x.set(0, NONE), 3);
    }

    /** An empty board with 16 pieces of a side, every third one a king, from a square on; one of the other side. */
    private static RingDraughts sixteen(int side, int first) {
        RingDraughts x = new RingDraughts();
        x.begin(true);
        for (int i = 0; i < 16; i++) {
            Check.due("the piece " + i + " of 16", x.set(first + i, 2 * side + Math.max(0, i % 3 - 1)), NONE);
        }
        x.set(47, 2 - 2 * side);
        return x;
    }

    private static void promise4MoreThan16() {
        Check.sentence(4, "TOO_MANY if there would be more than 16 pieces of its side.");
        RingDraughts x = sixteen(0, 0);
        Check.side("16", x, 0, 11, 5);
        Check.due("a 17th man", x.set(20, 0), TOO_MANY);
        Check.due("a 17th king", x.set(20, 1), TOO_MANY);
        Check.due("a 17th in place of one of the other side", x.set(47, 0), TOO_MANY);
        Check.due("none was set", x.square(20, 0), NONE);
        Check.due("the other one is there", x.square(47, 0), 2);
        Check.due("a man in place of a man", x.set(0, 0), 0);
        Check.due("a king in place of a man", x.set(0, 1), 0);
        Check.due("a man in place of a king", x.set(0, 0), 1);
        Check.due("nothing where nothing is", x.set(20, NONE), NONE);
        Check.due("one of the other side", x.set(20, 3), NONE);
        Check.due("one of the other side in place of one of 16", x.set(0, 2), 0);
        Check.due("the 16th again", x.set(21, 1), NONE);
        Check.due("and one too many again", x.set(22, 1), TOO_MANY);
        Check.due("one is taken away", x.set(1, NONE), 0);
        Check.due("so there is room", x.set(22, 1), NONE);
    }

    private static void promise4MoreThan16OfTheSide1() {
        Check.sentence(4, "TOO_MANY if there would be more than 16 pieces of its side.");
        RingDraughts x = sixteen(1, 30);
        Check.side("16", x, 1, 11, 5);
        Check.due("a 17th man", x.set(20, 2), TOO_MANY);
        Check.due("a 17th king", x.set(20, 3), TOO_MANY);
        Check.due("a 17th in place of one of the other side", x.set(47, 3), TOO_MANY);
        Check.due("a man of the other side", x.set(20, 0), NONE);
        Check.due("a king in place of a king", x.set(32, 3), 3);
        for (int i = 0; i < 14; i++) Check.due("more of the other side", x.set(i, i % 2), NONE);
        Check.due("16 of each", x.side(0, 0) + x.side(0, 1) + x.side(1, 0) + x.side(1, 1), 32);
        Check.due("a 17th of the other side", x.set(21, 0), TOO_MANY);
        Check.due("a 17th of both", x.set(21, 2), TOO_MANY);
        Check.due("in place of one of the other side, of both", x.set(30, 0), TOO_MANY);
    }

    private static void promise5IsANewGame() {
        Check.sentence(5, "Lets a side be to move; it is a new game then, as by set().");
        RingDraughts x = new RingDraughts();
        x.hop(0, 5);
        x.hop(0, 6);
        x.hop(0, 7);
        x.turn(0);
        Check.counts("the side 0", x, 0, 0, x.count(2), 0, NONE, 1, 0);
        Check.due("the clock of 0", x.side(0, 2), 588);
        Check.due("the clock of 1", x.side(1, 2), 594);
        RingDraughts jump = Check.board(0, 0, 0, 6, 2, 19, 2, 3, 0, 9, 2);
        jump.play(0, 13);
        jump.turn(0);
        Check.counts("the same side, and nobody has to jump on", jump, 0, 0, 2, 0, NONE, 1);
        Check.due("nothing is lost", jump.side(1, 3), 0);
        RingDraughts quiet = Quiet.board();
        Quiet.hops(quiet, 0, 26);
        quiet.turn(0);
        Check.counts("the same side, and no quiet hops", quiet, 0, 0, 92, 0, NONE, 1, 0);
        RingDraughts one = Check.board(0, 20, 0);
        Check.due("a side that has a piece", one.count(0), 0);
        one.turn(1);
        Check.due("a side that has none", one.count(0), 1);
        for (int kind = 0; kind < Ended.KINDS; kind++) {
            RingDraughts ended = Ended.game(kind);
            ended.turn(1 - Ended.loser(kind));
            Check.due("goes on behind " + Ended.name(kind), ended.count(0), 0);
        }
    }

    private static void promise5IsAChange() {
        Check.sentence(5, "This is a change.");
        Check.change("the other side", new RingDraughts(), x -> x.turn(1));
        Check.change("the same side", new RingDraughts(), x -> x.turn(0));
        RingDraughts jump = Check.board(0, 0, 0, 6, 2, 19, 2);
        jump.play(0, 13);
        Check.change("behind a jump", jump, x -> x.turn(0));
        Check.due("has to jump on again", jump.count(4), 13);
    }

    private static void promise5SideThatWasToMove() {
        Check.sentence(5, "Returns the side that was to move");
        RingDraughts x = new RingDraughts();
        Check.due("0, and 0 then", x.turn(0), 0);
        Check.due("0, and 1 then", x.turn(1), 0);
        Check.due("1, and 1 then", x.turn(1), 1);
        Check.due("1, and 0 then", x.turn(0), 1);
        x.hop(0, 0);
        Check.due("behind a hop", x.turn(0), 1);
    }

    private static void promise5NeitherSide() {
        Check.sentence(5, "BAD_VALUE if side is neither.");
        RingDraughts x = new RingDraughts();
        int[] wrong = {-1, 2, 3, NONE, 256, Integer.MIN_VALUE, Integer.MAX_VALUE};
        for (int side : wrong) Check.due("turn " + side, x.turn(side), BAD_VALUE);
        Check.due("no change", x.count(9), 0);
        Check.due("the side", x.count(1), 0);
        Check.sentence(5, "`side`: 0 or 1");
        Check.due("1", x.turn(1), 0);
        Check.due("0", x.turn(0), 1);
    }
}
