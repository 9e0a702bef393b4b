/** The promises 10 to 14, sentence by sentence: square, step, ofHop, side, count. */
final class Promise10To14Test {
    private static final int NO_SUCH = -1, BAD_VALUE = -2, NONE = -6;
    private static final int[] FAR = {Integer.MIN_VALUE, -1000, -7, NONE, -2, -1, 1000, 1 << 16, Integer.MAX_VALUE};

    private Promise10To14Test() {
    }

    static void run() {
        promise10PieceAndPlace();
        promise10CanBeTaken();
        promise10CanBeTakenByAnyPiece();
        promise10CanBeTakenByKings();
        promise10CanBeTakenRoundTheSides();
        promise10HowManyHops();
        promise10NoSuchSquare();
        promise10WhatOutOfRange();
        promise11Squares();
        promise11NoSuchSquare();
        promise11WayOutOfRange();
        promise12HopsOfNow();
        promise12BecomesAKing();
        promise12HasToJumpOn();
        promise12NoSuchHop();
        promise12WhatOutOfRange();
        promise13MenAndKings();
        promise13Clock();
        promise13Lost();
        promise13OutOfRange();
        promise14Numbers();
        promise14JumpsOn();
        promise14Come();
        promise14PadAndHistory();
        promise14OutOfRange();
    }

    private static void promise10PieceAndPlace() {
        Check.sentence(10, "`what`: 0 its piece (NONE), 1 its x, 2 its y");
        RingDraughts x = Check.board(0, 0, 0, 5, 1, 42, 2, 47, 3);
        int[] squares = {0, 5, 42, 47, 6, 11, 23, 24};
        int[] pieces = {0, 1, 2, 3, NONE, NONE, NONE, NONE};
        int[] columns = {0, 10, 1, 11, 1, 11, 11, 0};
        int[] rows = {0, 0, 7, 7, 1, 1, 3, 4};
        for (int i = 0; i < squares.length; i++) {
            Check.due("piece on " + squares[i], x.square(squares[i], 0), pieces[i]);
            Check.due("x of " + squares[i], x.square(squares[i], 1), columns[i]);
            Check.due("y of " + squares[i], x.square(squares[i], 2), rows[i]);
        }
        Check.sentence(10, "Returns something about a square.");
        Check.due("about the last square", x.square(47, 1) + x.square(47, 2), 18);
        Check.sentence(10, "Returns the number");
        Check.due("the least one", x.square(0, 1), 0);
    }

    private static void promise10CanBeTaken() {
        Check.sentence(10, "3 whether a piece on it can be taken by a hop of the other side");
        RingDraughts x = Check.board(0, 20, 0, 27, 2, 44, 1);
        Check.due("a man that can be jumped over", x.square(27, 3), 1);
        Check.due("the man that would jump, by that man", x.square(20, 3), 1);
        Check.due("a free square", x.square(33, 3), 0);
        Check.due("a king far away", x.square(44, 3), 0);
        x.set(33, 2);
        Check.due("held by one of its own side", x.square(27, 3), 0);
        x.set(33, 1);
        Check.due("held by one of the other side", x.square(27, 3), 0);
        x.set(33, NONE);
        x.set(27, 3);
        Check.due("a king that can be jumped over", x.square(27, 3), 1);
        RingDraughts own = Check.board(0, 20, 0, 27, 0);
        Check.due("not by its own side", own.square(27, 3), 0);
        Check.due("nor backwards", own.square(20, 3), 0);
        RingDraughts back = Check.board(0, 27, 0, 20, 2);
        Check.due("not by a man of 0 backwards", back.square(20, 3), 0);
        Check.due("not by a man of 1 backwards", back.square(27, 3), 0);
    }

    private static void promise10CanBeTakenByAnyPiece() {
        Check.sentence(10, "if that was to move now, with any piece (1 or 0)");
        RingDraughts x = Check.board(0, 0, 0, 6, 2, 19, 2, 3, 0, 9, 2);
        for (int side = 0; side < 2; side++) {
            x.turn(side);
            Check.due("by the man on 0, while " + side + " is to move", x.square(6, 3), 1);
            Check.due("by the man on 3, while " + side + " is to move", x.square(9, 3), 1);
            Check.due("by nobody, while " + side + " is to move", x.square(19, 3), 0);
            Check.due("by the man on 6, while " + side + " is to move", x.square(0, 3), 1);
        }
        x.turn(0);
        x.play(0, 13);
        Check.due("by the piece that jumps on", x.square(19, 3), 1);
        Check.due("by another piece than the one that jumps on", x.square(9, 3), 1);
        Check.due("by the side that is not to move", x.square(3, 3), 1);
        Check.due("the one that jumps on", x.square(13, 3), 1);
        x.giveUp();
        Check.due("behind the end of the game", x.square(19, 3), 1);
        for (int kind = 3; kind < 5; kind++) {
            RingDraughts drawn = Ended.game(kind);
            for (int square = 0; square < 48; square++) Check.due("behind a draw: " + square, drawn.square(square, 3), 0);
        }
    }

    private static void promise10CanBeTakenByKings() {
        Check.sentence(10, "3 whether a piece on it can be taken by a hop of the other side");
        RingDraughts near = Check.board(0, 0, 1, 41, 2);
        Check.due("by a king two steps away", near.square(41, 3), 1);
        near.set(34, 0);
        Check.due("by a man, too, and along the king's other diagonal", near.square(41, 3), 1);
        near.set(47, 0);
        near.set(46, 0);
        near.set(35, 0);
        Check.due("held on all its sides", near.square(41, 3), 0);
        RingDraughts last = Check.board(0, 0, 1, 47, 2);
        Check.due("by a king next to it", last.square(47, 3), 1);
        last.set(41, 2);
        Check.due("not onto the king's own square", last.square(47, 3), 0);
        RingDraughts behind = Check.board(0, 0, 1, 6, 2, 19, 2, 26, 2, 11, 0, 42, 0);
        Check.due("the first one on the way", behind.square(6, 3), 1);
        Check.due("not the second one, the third is behind it", behind.square(19, 3), 0);
    }

    private static void promise10CanBeTakenRoundTheSides() {
        Check.sentence(10, "3 whether a piece on it can be taken by a hop of the other side");
        int[] men = {23, 29, 24, 18, 36, 42, 41};
        int[] taken = {24, 35, 35, 24, 42, 1, 47};
        for (int i = 0; i < men.length; i++) {
            RingDraughts x = Check.board(1, men[i], 0, taken[i], 3);
            Check.due("by the man on " + men[i], x.square(taken[i], 3), 1);
        }
    }

    private static void promise10HowManyHops() {
        Check.sentence(10, "4 how many hops there are from it now");
        RingDraughts x = new RingDraughts();
        for (int square = 0; square < 48; square++) {
            Check.due("at first from " + square, x.square(square, 4), square >= 12 && square < 18 ? 2 : 0);
        }
        x.hop(0, 0);
        Check.due("of the side 0, which is not to move", x.square(13, 4), 0);
        Check.due("of the side 1", x.square(30, 4), 2);
        RingDraughts king = Check.board(0, 0, 1, 1, 3);
        Check.due("of a king", king.square(0, 4), 92);
        Check.due("of the other king", king.square(1, 4), 0);
        RingDraughts jump = Check.board(0, 0, 0, 6, 2, 19, 2, 3, 0, 9, 2);
        Check.due("of one that can jump", jump.square(3, 4), 1);
        jump.set(2, 0);
        Check.due("of one that can only step", jump.square(2, 4), 0);
        jump.play(0, 13);
        Check.due("of the piece that jumps on", jump.square(13, 4), 1);
        Check.due("of another one that can jump", jump.square(3, 4), 0);
        for (int kind = 0; kind < Ended.KINDS; kind++) {
            RingDraughts ended = Ended.game(kind);
            for (int square = 0; square < 48; square++) {
                Check.due("from " + square + " behind " + Ended.name(kind), ended.square(square, 4), 0);
            }
        }
    }

    private static void promise10NoSuchSquare() {
        Check.sentence(10, "NO_SUCH if there is no such square");
        RingDraughts x = new RingDraughts();
        for (int what = -1; what < 6; what++) {
            for (int square : FAR) Check.due("square " + square + " " + what, x.square(square, what), NO_SUCH);
            Check.due("square 48 " + what, x.square(48, what), NO_SUCH);
        }
        Check.due("the first one", x.square(0, 2), 0);
        Check.due("the last one", x.square(47, 2), 7);
    }

    private static void promise10WhatOutOfRange() {
        Check.sentence(10, "BAD_VALUE if what is out of range.");
        RingDraughts x = new RingDraughts();
        for (int what : FAR) Check.due("square 0 " + what, x.square(0, what), BAD_VALUE);
        for (int square = 0; square < 48; square++) Check.due("square " + square + " 5", x.square(square, 5), BAD_VALUE);
        Check.due("the greatest", x.square(12, 4), 2);
        Check.due("the least", x.square(12, 0), 0);
    }

    private static void promise11Squares() {
        Check.sentence(11, "Returns the square to which a step comes.");
        RingDraughts x = new RingDraughts();
        int[][] due = {
            {0, 6, 11, 42, 47}, {5, 11, 10, 47, 46}, {6, 13, 12, 1, 0}, {11, 12, 17, 0, 5}, {17, 23, 22, 11, 10},
            {23, 24, 29, 12, 17}, {24, 30, 35, 18, 23}, {41, 47, 46, 35, 34}, {42, 1, 0, 37, 36}, {47, 0, 5, 36, 41},
        };
        for (int[] row : due) {
            for (int way = 0; way < 4; way++) Check.due("step " + row[0] + " " + way, x.step(row[0], way), row[way + 1]);
        }
        Check.sentence(11, "Returns the square");
        int square = 20;
        for (int i = 0; i < 24; i++) {
            square = x.step(square, i % 2 == 0 ? 1 : 0);
        }
        Check.due("24 steps up", square, 20);
        for (int way = 0; way < 4; way++) {
            square = 20;
            int steps = 0;
            do {
                square = x.step(square, way);
                steps++;
            } while (square != 20 && steps < 48);
            Check.due("a lap by the way " + way, steps, 24);
        }
        Check.due("whatever stands there", x.step(6, 0), 13);
    }

    private static void promise11NoSuchSquare() {
        Check.sentence(11, "NO_SUCH if there is no such square");
        RingDraughts x = new RingDraughts();
        for (int way = -1; way < 5; way++) {
            for (int square : FAR) Check.due("step " + square + " " + way, x.step(square, way), NO_SUCH);
            Check.due("step 48 " + way, x.step(48, way), NO_SUCH);
        }
    }

    private static void promise11WayOutOfRange() {
        Check.sentence(11, "BAD_VALUE if way is out of range.");
        RingDraughts x = new RingDraughts();
        for (int way : FAR) Check.due("step 0 " + way, x.step(0, way), BAD_VALUE);
        Check.due("step 0 4", x.step(0, 4), BAD_VALUE);
        Check.due("step 47 4", x.step(47, 4), BAD_VALUE);
        Check.sentence(11, "`way`: 0 to 3");
        Check.due("the least", x.step(20, 0), 27);
        Check.due("the greatest", x.step(20, 3), 14);
    }

    private static void promise12HopsOfNow() {
        Check.sentence(12, "Returns something about a hop that can be made now.");
        RingDraughts x = new RingDraughts();
        Check.ofHop("at first", x, 0, 12, 18, 0, 1, NONE, 0, 0);
        Check.ofHop("the last at first", x, 11, 17, 22, 1, 1, NONE, 0, 0);
        x.hop(11, 0);
        Check.ofHop("of the other side then", x, 0, 30, 25, 2, 1, NONE, 0, 0);
        Check.ofHop("the last of the other side", x, 11, 35, 29, 3, 1, NONE, 0, 0);
        Check.sentence(12, "`what`: 0 its first square, 1 its last one, 2 its way, 3 how many steps it goes, 4 the square of the piece that it takes (NONE)");
        RingDraughts king = Check.board(0, 0, 1, 1, 3);
        Check.ofHop("a king's farthest", king, 22, 0, 47, 0, 23, NONE, 0, 0);
        Check.ofHop("a king's next way", king, 23, 0, 11, 1, 1, NONE, 0, 0);
        Check.ofHop("a king's last hop", king, 91, 0, 6, 3, 23, NONE, 0, 0);
        RingDraughts jump = Check.board(1, 20, 0, 27, 3);
        Check.ofHop("a king's jump", jump, 0, 27, 14, 3, 2, 20, 0, 0);
        Check.ofHop("a king's longest jump", jump, 21, 27, 33, 3, 23, 20, 0, 0);
        Check.sentence(12, "Returns the number");
        Check.due("0 as a first square", king.ofHop(0, 0), 0);
    }

    private static void promise12BecomesAKing() {
        Check.sentence(12, "5 whether a man becomes a king by it (1 or 0)");
        RingDraughts up = Check.board(0, 36, 0, 42, 0, 30, 1, 0, 0);
        int[] crowned = {0, 0};
        int number = up.count(2);
        for (int hop = 0; hop < number; hop++) crowned[up.ofHop(hop, 5)] += up.ofHop(hop, 0) == 42 ? 1 : 100;
        Check.due("from the row 7 alone: becomes one", crowned[1], 1);
        Check.due("from the row 7 alone: all others do not", crowned[0], 100 * (number - 1));
        RingDraughts down = Check.board(1, 0, 2, 6, 2, 12, 3, 47, 2);
        number = down.count(2);
        for (int hop = 0; hop < number; hop++) {
            int from = down.ofHop(hop, 0);
            Check.due("of the side 1 from " + from, down.ofHop(hop, 5), from == 0 ? 1 : 0);
        }
        Check.due("a jump onto the row 0", Check.board(0, 36, 0, 42, 2).ofHop(0, 5), 1);
        Check.due("a jump over the row 0", Check.board(0, 42, 0, 1, 2).ofHop(0, 5), 1);
        Check.due("a jump onto the row 7", Check.board(0, 30, 0, 37, 2).ofHop(0, 5), 0);
        Check.due("a jump onto the row 7, of 1", Check.board(1, 6, 2, 0, 0).ofHop(0, 5), 1);
        Check.due("a jump over the row 7, of 1", Check.board(1, 0, 2, 42, 0).ofHop(0, 5), 1);
        Check.due("a jump onto the row 0, of 1", Check.board(1, 12, 2, 6, 0).ofHop(0, 5), 0);
        Check.due("a king's jump onto the row 0", Check.board(0, 36, 1, 42, 2).ofHop(0, 5), 0);
    }

    private static void promise12HasToJumpOn() {
        Check.sentence(12, "6 whether the same side has to jump on behind it (1 or 0)");
        Check.due("a second piece", Check.board(0, 0, 0, 6, 2, 19, 2).ofHop(0, 6), 1);
        Check.due("no second piece", Check.board(0, 0, 0, 6, 2, 44, 2).ofHop(0, 6), 0);
        Check.due("the last piece", Check.board(0, 0, 0, 6, 2).ofHop(0, 6), 0);
        Check.due("a second piece that is held", Check.board(0, 0, 0, 6, 2, 19, 2, 26, 2).ofHop(0, 6), 0);
        Check.due("another piece could jump", Check.board(0, 0, 0, 6, 2, 3, 0, 9, 2).ofHop(0, 6), 0);
        Check.due("a step to where it could jump", Check.board(0, 0, 0, 13, 2).ofHop(0, 6), 0);
        Check.due("a piece behind a man", Check.board(0, 0, 0, 6, 2, 7, 2).ofHop(0, 6), 0);
        Check.due("a piece behind a new king", Check.board(0, 36, 0, 42, 2, 43, 2).ofHop(0, 6), 1);
        RingDraughts chosen = Check.board(0, 0, 1, 6, 2, 14, 2);
        int number = chosen.count(2);
        for (int hop = 0; hop < number; hop++) {
            RingDraughts x = Check.board(0, 0, 1, 6, 2, 14, 2);
            x.hop(hop, 0);
            int same = x.count(1) == 0 ? 1 : 0;
            Check.due("a king's jump to " + chosen.ofHop(hop, 1), chosen.ofHop(hop, 6), same);
        }
        Check.due("some of them jump on", Check.oneIf(number == 22 && chosen.ofHop(1, 6) == 1 && chosen.ofHop(2, 6) == 0), 1);
    }

    private static void promise12NoSuchHop() {
        Check.sentence(12, "NO_SUCH if there is no such hop");
        RingDraughts x = new RingDraughts();
        for (int what = -1; what < 8; what++) {
            for (int hop : FAR) Check.due("ofHop " + hop + " " + what, x.ofHop(hop, what), NO_SUCH);
            Check.due("ofHop 12 " + what, x.ofHop(12, what), NO_SUCH);
        }
        RingDraughts king = Check.board(0, 0, 1, 1, 3);
        Check.due("92 of a king", king.ofHop(92, 0), NO_SUCH);
        RingDraughts jump = Check.board(0, 0, 0, 6, 2, 3, 0);
        Check.due("steps where a jump is due", jump.ofHop(1, 0), NO_SUCH);
        for (int kind = 0; kind < Ended.KINDS; kind++) {
            RingDraughts ended = Ended.game(kind);
            for (int what = -1; what < 8; what++) {
                Check.due(what + " behind " + Ended.name(kind), ended.ofHop(0, what), NO_SUCH);
            }
        }
    }

    private static void promise12WhatOutOfRange() {
        Check.sentence(12, "BAD_VALUE if what is out of range.");
        RingDraughts x = new RingDraughts();
        for (int what : FAR) {
            Check.due("ofHop 0 " + what, x.ofHop(0, what), BAD_VALUE);
            Check.due("ofHop 11 " + what, x.ofHop(11, what), BAD_VALUE);
        }
        Check.due("ofHop 0 7", x.ofHop(0, 7), BAD_VALUE);
        Check.due("the greatest", x.ofHop(0, 6), 0);
        Check.due("the least", x.ofHop(0, 0), 12);
    }

    private static void promise13MenAndKings() {
        Check.sentence(13, "`what`: 0 its men, 1 its kings");
        RingDraughts x = Check.board(0, 0, 0, 1, 0, 2, 1, 30, 2, 31, 3, 32, 3, 33, 3);
        Check.side("set", x, 0, 2, 1, 600, 0, 5);
        Check.side("set", x, 1, 1, 3, 600, 0, 10);
        RingDraughts crowned = Check.board(0, 42, 0, 20, 2);
        crowned.play(42, 0);
        Check.side("a man becomes a king", crowned, 0, 0, 1, 600, 0, 3);
        Check.sentence(13, "4 its worth: 1 for each man, 3 for each king");
        RingDraughts empty = new RingDraughts();
        empty.begin(true);
        Check.side("none", empty, 0, 0, 0, 600, 0, 0);
        Check.side("none", empty, 1, 0, 0, 600, 0, 0);
        for (int i = 0; i < 16; i++) empty.set(i, 1);
        Check.side("16 kings", empty, 0, 0, 16, 600, 0, 48);
        Check.sentence(13, "Returns something about a side.");
        Check.due("the side 1 has none", empty.side(1, 1), 0);
        Check.sentence(13, "Returns the number");
        Check.due("the number", empty.side(0, 1), 16);
    }

    private static void promise13Clock() {
        Check.sentence(13, "2 its clock");
        RingDraughts x = new RingDraughts();
        x.hop(0, 600);
        Check.due("empty", x.side(0, 2), 0);
        Check.due("full", x.side(1, 2), 600);
        x.hop(0, 601);
        Check.due("empty by a hop that was not made", x.side(1, 2), 0);
        x.clock(9999);
        Check.due("not by the setting", x.side(0, 2), 0);
        x.begin(true);
        Check.due("at the beginning", x.side(0, 2), 9999);
    }

    private static void promise13Lost() {
        Check.sentence(13, "3 pieces that it has lost in this game");
        RingDraughts x = Check.board(0, 0, 0, 6, 2, 19, 3, 44, 2, 3, 0);
        Check.due("none at the beginning", x.side(1, 3), 0);
        x.play(0, 13);
        Check.due("a man", x.side(1, 3), 1);
        x.play(13, 26);
        Check.due("a king, too", x.side(1, 3), 2);
        Check.due("none of the other side", x.side(0, 3), 0);
        x.undo();
        Check.due("undone", x.side(1, 3), 1);
        x.set(47, NONE);
        Check.due("in the game that set begins", x.side(1, 3), 0);
        x.set(44, NONE);
        Check.due("what set takes away is not lost", x.side(1, 3), 0);
        RingDraughts down = Check.board(1, 13, 2, 6, 0, 44, 0);
        down.play(13, 0);
        Check.due("of the side 0", down.side(0, 3), 1);
        Check.due("of the side 1", down.side(1, 3), 0);
        down.turn(0);
        Check.due("in the game that turn begins", down.side(0, 3), 0);
        RingDraughts step = Check.board(0, 42, 0, 20, 2);
        step.play(42, 0);
        Check.due("a man that becomes a king is not lost", step.side(0, 3), 0);
    }

    private static void promise13OutOfRange() {
        Check.sentence(13, "BAD_VALUE if side is neither 0 nor 1, or what is out of range.");
        RingDraughts x = new RingDraughts();
        for (int what = 0; what < 5; what++) {
            for (int side : FAR) Check.due("side " + side + " " + what, x.side(side, what), BAD_VALUE);
            Check.due("side 2 " + what, x.side(2, what), BAD_VALUE);
        }
        for (int what : FAR) {
            Check.due("side 0 " + what, x.side(0, what), BAD_VALUE);
            Check.due("side 1 " + what, x.side(1, what), BAD_VALUE);
            Check.due("side " + what + " " + what, x.side(what, what), BAD_VALUE);
        }
        Check.due("side 0 5", x.side(0, 5), BAD_VALUE);
        Check.due("side 1 5", x.side(1, 5), BAD_VALUE);
        Check.due("the greatest", x.side(1, 4), 12);
        Check.due("the least", x.side(0, 0), 12);
    }

    private static void promise14Numbers() {
        Check.sentence(14, "`what`: 0 how the game is, 1 the side that is to move, 2 how many hops there are now, 3 hops made in this game");
        RingDraughts x = new RingDraughts();
        Check.counts("at first", x, 0, 0, 12, 0, NONE, 1, 0, 600, 0, 0);
        x.hop(0, 5);
        Check.counts("behind a hop", x, 0, 1, 12, 1, NONE, 1, 0, 600, 0, 1);
        for (int kind = 0; kind < Ended.KINDS; kind++) {
            RingDraughts ended = Ended.game(kind);
            Check.due("how it is behind " + Ended.name(kind), ended.count(0), Ended.HOW[kind]);
            Check.due("no hops behind " + Ended.name(kind), ended.count(2), 0);
        }
        Check.due("a hop that was not made is not counted", Ended.game(1).count(3), 0);
        RingDraughts jump = Check.board(0, 0, 0, 6, 2, 19, 2);
        jump.hop(0, 0);
        jump.hop(0, 0);
        Check.due("both jumps are hops", jump.count(3), 2);
        Check.sentence(14, "Returns a number.");
        Check.due("the most hops of a king", Check.board(0, 0, 1).count(2), 92);
        Check.sentence(14, "Returns the number");
        Check.due("none on an empty board", Check.board(0).count(2), 0);
    }

    private static void promise14JumpsOn() {
        Check.sentence(14, "4 the square of the piece that has to jump on (NONE)");
        RingDraughts x = Check.board(0, 0, 0, 6, 2, 19, 2, 44, 2);
        Check.due("ahead of the first jump", x.count(4), NONE);
        x.play(0, 13);
        Check.due("ahead of the second one", x.count(4), 13);
        x.play(13, 26);
        Check.due("behind the second one", x.count(4), NONE);
        RingDraughts first = Check.board(1, 13, 2, 6, 0, 47, 0);
        first.play(13, 0);
        Check.due("the square 0", first.count(4), 0);
        Check.sentence(14, "6 hops in a row by kings without taking");
        RingDraughts quiet = Quiet.board();
        for (int hop = 0; hop < 60; hop++) {
            Check.due("ahead of the hop " + hop, quiet.count(6), hop);
            Quiet.hops(quiet, hop, hop + 1);
        }
        Check.due("the most", quiet.count(6), 60);
        quiet.undo();
        Check.due("undone", quiet.count(6), 59);
    }

    private static void promise14Come() {
        Check.sentence(14, "5 how often the position of now has come in this game");
        RingDraughts x = Ended.game(3);
        Check.due("the third time", x.count(5), 3);
        x.undo();
        Check.due("the second time of the one before", x.count(5), 2);
        x.undo();
        x.undo();
        x.undo();
        Check.due("the second time of the first one", x.count(5), 2);
        x.undo();
        Check.due("the first time", x.count(5), 1);
        x.giveUp();
        Check.due("behind giving up", x.count(5), 1);
        RingDraughts late = new RingDraughts();
        late.hop(0, 601);
        Check.due("behind a hop that was not made", late.count(5), 1);
        Check.sentence(14, "7 CLOCK");
        late.clock(10);
        Check.due("the setting", late.count(7), 10);
    }

    private static void promise14PadAndHistory() {
        Check.sentence(14, "8 the length of the pad, 9 how many changes can be undone");
        RingDraughts x = new RingDraughts();
        for (int i = 1; i <= 60; i++) {
            x.put('-');
            Check.due("the pad", x.count(8), i);
        }
        x.put('-');
        Check.due("the full pad", x.count(8), 60);
        x.wipe();
        Check.due("the empty pad", x.count(8), 0);
        for (int i = 1; i <= 8; i++) {
            x.turn(0);
            Check.due("the history", x.count(9), Math.min(i, 6));
        }
        for (int i = 5; i >= 0; i--) {
            x.undo();
            Check.due("the history behind undo", x.count(9), i);
        }
        x.undo();
        Check.due("the empty history", x.count(9), 0);
    }

    private static void promise14OutOfRange() {
        Check.sentence(14, "BAD_VALUE if what is out of range.");
        RingDraughts x = new RingDraughts();
        for (int what : FAR) Check.due("count " + what, x.count(what), BAD_VALUE);
        Check.due("count 10", x.count(10), BAD_VALUE);
        Check.due("the greatest", x.count(9), 0);
        Check.due("the least", x.count(0), 0);
    }
}
