/** The terms: how men and kings hop, what they take, and who is to move behind it. */
final class TermsHopsTest {
    private static final int NOT_POSSIBLE = -5, NONE = -6;

    private TermsHopsTest() {
    }

    static void run() {
        termsMenStep();
        termsMenJump();
        termsMenJumpRoundTheSides();
        termsKingsGo();
        termsKingsJump();
        termsKingsJumpNearAndFar();
        termsKingsDoNotJumpOntoTheirOwnSquare();
        termsTakenAtOnce();
        termsMenBecomeKings();
        termsJumpsHaveToBeMade();
        termsTheSamePieceJumpsOn();
        termsOtherwiseTheOtherSide();
        termsANewKingJumpsOnAsAKing();
        termsHopsAreInOrder();
    }

    private static void hops(String run, RingDraughts x, int from, int number) {
        Check.due(run + ": hops from " + from, x.square(from, 4), number);
    }

    private static void termsMenStep() {
        Check.sentence(0, "A man goes one step ahead to an empty square.");
        RingDraughts x = Check.board(0, 20, 0, 45, 2);
        Check.due("step: both ways", x.count(2), 2);
        Check.ofHop("step: right", x, 0, 20, 27, 0, 1, NONE);
        Check.ofHop("step: left", x, 1, 20, 26, 1, 1, NONE);
        Check.due("step: not back", x.play(20, 15), NOT_POSSIBLE);
        Check.due("step: not two at once", x.play(20, 33), NOT_POSSIBLE);
        Check.due("step: not along the row", x.play(20, 21), NOT_POSSIBLE);
        Check.due("step: not onto itself", x.play(20, 20), NOT_POSSIBLE);
        x.set(27, 0);
        hops("step: not onto one's own piece", x, 20, 1);
        x.set(26, 2);
        x.set(31, 2);
        hops("step: nor onto one of the other side", x, 20, 0);
    }

    private static void termsMenJump() {
        Check.sentence(0, "A man jumps: one step ahead over a piece of the other side, and a second step the same way to an empty square.");
        RingDraughts x = Check.board(0, 20, 0, 27, 2);
        Check.due("jump: no other hop", x.count(2), 1);
        Check.ofHop("jump: over a man", x, 0, 20, 33, 0, 2, 27, 0, 0);
        x.set(27, 3);
        Check.ofHop("jump: over a king", x, 0, 20, 33, 0, 2, 27, 0, 0);
        x.set(27, 0);
        Check.due("jump: not over one's own man", x.play(20, 33), NOT_POSSIBLE);
        x.set(27, 1);
        Check.due("jump: not over one's own king", x.play(20, 33), NOT_POSSIBLE);
        x.set(27, 2);
        x.set(33, 2);
        hops("jump: not onto a piece of the other side", x, 20, 1);
        Check.ofHop("jump: but a step the other way", x, 0, 20, 26, 1, 1, NONE);
        x.set(33, 0);
        hops("jump: not onto one's own piece", x, 20, 1);
        RingDraughts back = Check.board(0, 20, 0, 15, 2);
        Check.due("jump: not back", back.play(20, 9), NOT_POSSIBLE);
        RingDraughts far = Check.board(0, 20, 0, 33, 2);
        Check.due("jump: not over a piece two steps away", far.play(20, 40), NOT_POSSIBLE);
        RingDraughts down = Check.board(1, 27, 2, 20, 0);
        Check.ofHop("jump: of the side 1", down, 0, 27, 14, 3, 2, 20, 0, 0);
    }

    private static void oneJump(String run, int side, int from, int taken, int to, int way) {
        RingDraughts x = Check.board(side, from, 2 * side, taken, 2 - 2 * side);
        Check.due(run + ": hops", x.count(2), 1);
        Check.ofHop(run, x, 0, from, to, way, 2, taken);
    }

    private static void termsMenJumpRoundTheSides() {
        Check.sentence(0, "A man jumps: one step ahead over a piece of the other side, and a second step the same way to an empty square.");
        oneJump("over the right side, at its end", 0, 29, 35, 36, 0);
        oneJump("over the right side, at once", 0, 23, 24, 30, 0);
        oneJump("over the left side, at its end", 0, 18, 24, 35, 1);
        oneJump("over the left side, at once", 0, 24, 35, 41, 1);
        oneJump("over the upper side, at its end", 0, 36, 42, 1, 0);
        oneJump("over the upper side, at once", 0, 42, 1, 7, 0);
        oneJump("over the lower side, at its end", 1, 6, 0, 47, 3);
        oneJump("over the lower side, at once", 1, 0, 47, 41, 3);
        oneJump("over a corner", 0, 41, 47, 0, 0);
        oneJump("over the corner at once", 0, 47, 0, 6, 0);
    }

    private static void termsKingsGo() {
        Check.sentence(0, "A king goes any number of steps one way, if all squares to which it comes are empty (also its own one counts as not empty).");
        RingDraughts x = Check.board(0, 0, 1, 1, 3);
        Check.due("alone: 23 steps each way", x.count(2), 4 * 23);
        for (int hop = 0; hop < 92; hop++) {
            Check.due("alone: steps of " + hop, x.ofHop(hop, 3), hop % 23 + 1);
            Check.due("alone: ways of " + hop, x.ofHop(hop, 2), hop / 23);
            Check.due("alone: not onto its own square by " + hop, Check.oneIf(x.ofHop(hop, 1) == 0), 0);
        }
        RingDraughts two = Check.board(0, 0, 1, 1, 1);
        Check.due("two of one side: the most hops that there can be", two.count(2), 2 * 4 * 23);
        Check.ofHop("two of one side: the last one", two, 183, 1, 7, 3, 23, NONE, 0, 0);
        Check.due("two of one side: it can be made", two.hop(183, 0), 1);
        Check.due("two of one side: it is made", two.square(7, 0), 1);
        RingDraughts last = Check.board(0, 0, 1, 47, 0, 1, 3);
        hops("a piece at the end of a lap", last, 0, 22 + 23 + 23);
        Check.ofHop("a piece at the end of a lap: up to it", last, 21, 0, 41, 0, 22, NONE);
        RingDraughts near = Check.board(0, 0, 1, 6, 0, 11, 0, 42, 0, 47, 0);
        hops("shut in by one's own", near, 0, 0);
        RingDraughts far = Check.board(0, 0, 1, 13, 0, 11, 0, 42, 0);
        hops("a piece two steps away: 1 step to it, and 21 round the torus", far, 0, 22);
    }

    private static void termsKingsJump() {
        Check.sentence(0, "A king jumps one way: over any number of empty squares (or none), a piece of the other side, "
            + "and then to an empty square behind it: the first one, or a farther one, if all between are empty.");
        RingDraughts none = Check.board(0, 0, 1, 6, 2);
        Check.due("over no empty square: squares behind it", none.count(2), 22);
        for (int hop = 0; hop < 22; hop++) {
            Check.due("over no empty square: steps of " + hop, none.ofHop(hop, 3), hop + 2);
            Check.due("over no empty square: taken by " + hop, none.ofHop(hop, 4), 6);
        }
        RingDraughts some = Check.board(0, 0, 1, 19, 3);
        Check.due("over two: 20 squares behind it, and 2 the other way round", some.count(2), 20 + 2);
        Check.ofHop("over two: the first one", some, 0, 0, 26, 0, 4, 19);
        Check.ofHop("over two: the farthest one", some, 19, 0, 47, 0, 23, 19);
        Check.ofHop("over two: the other way round", some, 20, 0, 13, 3, 22, 19);
        RingDraughts stopped = Check.board(0, 0, 1, 6, 2, 26, 0);
        Check.due("up to the next piece", stopped.count(2), 2);
        Check.ofHop("up to the next piece", stopped, 1, 0, 19, 0, 3, 6);
        RingDraughts gap = Check.board(0, 0, 1, 6, 2, 19, 2);
        Check.due("one square between two: from both sides", gap.count(2), 2);
        Check.ofHop("one square between two", gap, 0, 0, 13, 0, 2, 6);
        Check.ofHop("one square between two, the other way round", gap, 1, 0, 13, 3, 22, 19);
        RingDraughts two = Check.board(0, 0, 1, 6, 2, 13, 2, 11, 0, 42, 0);
        hops("not over two at once", two, 0, 21);
        Check.due("not over two at once: only steps", two.play(0, 19), 0);
        RingDraughts own = Check.board(0, 0, 1, 6, 0, 19, 2, 11, 0, 42, 0, 47, 0);
        hops("not over one's own piece", own, 0, 0);
        Check.due("not over one's own piece to another one", own.square(19, 3), 0);
    }

    private static void termsKingsJumpNearAndFar() {
        Check.sentence(0, "over any number of empty squares (or none)");
        RingDraughts far = Check.board(0, 0, 1, 41, 2, 11, 0, 42, 0, 47, 0);
        Check.due("21 empty squares: one's own piece behind it", far.square(41, 3), 0);
        far.set(47, NONE);
        Check.ofHop("21 empty squares: the last one of the lap is behind it", far, 0, 0, 47, 0, 23, 41);
        Check.ofHop("21 empty squares: one the other way round", far, 1, 0, 34, 3, 3, 41);
        RingDraughts man = Check.board(0, 0, 0, 13, 2);
        Check.due("a man does not jump from afar", man.square(13, 3), 0);
        man.set(0, 1);
        Check.due("a king does", man.square(13, 3), 1);
    }

    private static void termsKingsDoNotJumpOntoTheirOwnSquare() {
        Check.sentence(0, "(Its own square counts as not empty here, too.)");
        RingDraughts x = Check.board(0, 0, 1, 47, 2);
        Check.due("a piece at the end of a lap: not that way", x.count(2), 22);
        for (int hop = 0; hop < 22; hop++) {
            Check.due("a piece at the end of a lap: the way of " + hop, x.ofHop(hop, 2), 3);
            Check.due("a piece at the end of a lap: not onto its own square by " + hop, Check.oneIf(x.ofHop(hop, 1) == 0), 0);
        }
        Check.due("onto its own square", x.play(0, 0), NOT_POSSIBLE);
        RingDraughts held = Check.board(0, 0, 1, 47, 2, 41, 2, 11, 0, 42, 0);
        Check.due("held by another one: no jump", held.square(47, 3), 0);
        hops("held by another one: up to 34", held, 0, 21);
        RingDraughts loose = Check.board(0, 6, 1, 47, 2);
        Check.ofHop("from the next square: onto the one between", loose, 0, 6, 0, 0, 23, 47);
    }

    private static void termsTakenAtOnce() {
        Check.sentence(0, "A piece that is jumped over is taken at once.");
        RingDraughts x = Check.board(0, 0, 1, 6, 2, 41, 2, 44, 2);
        Check.due("the first jump", x.play(0, 13), 0);
        Check.due("the piece is gone", x.square(6, 0), NONE);
        Check.side("the piece is gone", x, 1, 2, 0, 600, 1);
        Check.due("the king has to jump on", x.count(4), 13);
        Check.due("and can go back where both have been", Check.oneIf(Check.hasHop(x, 13, 34, 5, 41)), 1);
    }

    private static void crowns(int side, int from, int taken, int to, boolean isCrowned) {
        int man = 2 * side;
        int other = 2 - man;
        RingDraughts x = taken == NONE ? Check.board(side, from, man) : Check.board(side, from, man, taken, other);
        x.play(from, to);
        Check.due("from " + from + " to " + to, x.square(to, 0), isCrowned ? man + 1 : man);
    }

    private static void termsMenBecomeKings() {
        Check.sentence(0, "A man that comes from the row 7 to the row 0 (of the side 0), or from the row 0 to the row 7 (of the side 1), "
            + "by a step or within a jump, becomes a king.");
        for (int i = 0; i < 6; i++) {
            crowns(0, 42 + i, NONE, (i + 1) % 6, true);
            crowns(0, 42 + i, NONE, i, true);
            crowns(1, i, NONE, 42 + i, true);
            crowns(1, i, NONE, 42 + (i + 5) % 6, true);
            crowns(0, 36 + i, 42 + i, (i + 1) % 6, true);
            crowns(0, 42 + i, i, 6 + (i + 5) % 6, true);
            crowns(1, 6 + i, i, 42 + (i + 5) % 6, true);
            crowns(1, i, 42 + i, 36 + (i + 1) % 6, true);
        }
        for (int i = 0; i < 42; i++) {
            RingDraughts x = Check.board(0, i, 0);
            crowns(0, i, NONE, x.step(i, 0), false);
            crowns(1, i + 6, NONE, x.step(i + 6, 2), false);
            if (i < 36) crowns(0, i, x.step(i, 0), x.step(x.step(i, 0), 0), false);
            if (i < 36) crowns(1, i + 12, x.step(i + 12, 2), x.step(x.step(i + 12, 2), 2), false);
        }
    }

    private static void termsJumpsHaveToBeMade() {
        Check.sentence(0, "If the side to move can jump with any piece, it has to jump.");
        RingDraughts x = Check.board(0, 3, 0, 0, 1, 20, 0, 27, 2);
        Check.due("one jump among many pieces", x.count(2), 1);
        Check.due("no step of the piece that can jump", x.play(20, 26), NOT_POSSIBLE);
        Check.due("no step of another piece", x.play(3, 9), NOT_POSSIBLE);
        Check.due("no step of a king", x.play(0, 6), NOT_POSSIBLE);
        x.set(33, 0);
        Check.due("no jump: steps", x.ofHop(0, 4), NONE);
        Check.due("no jump: steps of the man on 3", x.square(3, 4), 2);
        Check.due("no jump: steps of the king, up to the men on 33 and 20", x.square(0, 4), 23 + 4 + 4 + 23);
        RingDraughts two = Check.board(0, 20, 0, 27, 2, 3, 0, 9, 2);
        Check.due("one of two pieces may be chosen", two.count(2), 2);
        RingDraughts first = new RingDraughts();
        Check.due("no jump at first", first.ofHop(0, 4), NONE);
    }

    private static void termsTheSamePieceJumpsOn() {
        Check.sentence(0, "the same side is to move, and has to jump with this piece");
        RingDraughts x = Check.board(0, 0, 0, 6, 2, 19, 2, 25, 2, 3, 0, 9, 2);
        Check.due("first jump", x.play(0, 13), 0);
        Check.counts("first jump", x, 0, 0, 1, 1, 13);
        Check.due("not with another piece", x.play(3, 16), NOT_POSSIBLE);
        Check.due("not by a step", x.play(13, 18), NOT_POSSIBLE);
        Check.due("second jump", x.play(13, 26), 0);
        Check.counts("second jump: over", x, 0, 1, x.count(2), 2, NONE);
        RingDraughts fork = Check.board(0, 0, 0, 6, 2, 19, 2, 18, 2, 44, 2);
        fork.play(0, 13);
        Check.due("two ways to jump on", fork.count(2), 2);
        RingDraughts three = Check.board(0, 0, 0, 6, 2, 19, 2, 32, 2, 44, 2);
        three.play(0, 13);
        three.play(13, 26);
        Check.due("a third jump", three.count(4), 26);
        Check.due("the third jump", three.play(26, 39), 0);
        Check.side("the third jump", three, 1, 1, 0, 600, 3);
        RingDraughts down = Check.board(1, 26, 2, 19, 0, 6, 0, 44, 0);
        down.play(26, 13);
        Check.counts("the side 1", down, 0, 1, 1, 1, 13);
    }

    private static void termsOtherwiseTheOtherSide() {
        Check.sentence(0, "otherwise the other side is to move");
        RingDraughts other = Check.board(0, 0, 0, 6, 2, 3, 0, 9, 2, 44, 2);
        other.play(0, 13);
        Check.due("only another piece could jump: side", other.count(1), 1);
        Check.due("only another piece could jump: nobody has to", other.count(4), NONE);
        RingDraughts step = Check.board(0, 0, 0, 13, 2, 44, 2);
        step.play(0, 6);
        Check.due("a step to where it could jump: side", step.count(1), 1);
        Check.due("a step to where it could jump: nobody has to", step.count(4), NONE);
        RingDraughts king = Check.board(0, 42, 0, 13, 2, 44, 2);
        king.play(42, 0);
        Check.due("a step by which a man becomes a king: side", king.count(1), 1);
        RingDraughts far = Check.board(0, 0, 0, 6, 2, 26, 2, 24, 2);
        far.play(0, 13);
        Check.due("a man does not jump on over pieces two steps away: side", far.count(1), 1);
        Check.due("a man does not jump on over pieces two steps away: nobody has to", far.count(4), NONE);
        RingDraughts back = Check.board(0, 0, 0, 6, 2, 7, 2, 44, 2);
        back.play(0, 13);
        Check.due("a man does not jump on backwards", back.count(1), 1);
    }

    private static void termsANewKingJumpsOnAsAKing() {
        Check.sentence(0, "(as a king, if it has become one)");
        RingDraughts back = Check.board(0, 36, 0, 42, 2, 43, 2, 20, 2);
        Check.due("the man jumps onto row 0", back.play(36, 1), 0);
        Check.counts("and on, backwards or from afar", back, 0, 0, back.count(2), 1, 1);
        Check.due("over a piece behind it", Check.oneIf(Check.hasHop(back, 1, 38, 2, 43)), 1);
        Check.due("over a piece three steps ahead", Check.oneIf(Check.hasHop(back, 1, 27, 4, 20)), 1);
        RingDraughts within = Check.board(0, 42, 0, 1, 2, 24, 2);
        within.play(42, 7);
        Check.due("through row 0: is a king", within.square(7, 0), 1);
        RingDraughts man = Check.board(0, 30, 0, 37, 2, 13, 2);
        man.play(30, 43);
        Check.due("one that is still a man does not", man.count(4), NONE);
    }

    private static void termsHopsAreInOrder() {
        Check.sentence(0, "Hops are numbered from 0 in the order of their first squares, of these in that of their ways, "
            + "of these in that of how many steps they go.");
        RingDraughts steps = Check.board(0, 2, 0, 20, 1, 23, 0, 30, 0, 47, 0, 45, 3);
        order("steps", steps);
        RingDraughts jumps = Check.board(1, 0, 3, 6, 0, 19, 0, 11, 0, 42, 1, 22, 2, 16, 0, 44, 3, 37, 1);
        order("jumps", jumps);
        RingDraughts first = new RingDraughts();
        order("the first board", first);
    }

    private static void order(String run, RingDraughts x) {
        int before = -1;
        int number = x.count(2);
        Check.due(run + ": there are some", Check.oneIf(number > 2), 1);
        for (int hop = 0; hop < number; hop++) {
            int place = (x.ofHop(hop, 0) * 4 + x.ofHop(hop, 2)) * 24 + x.ofHop(hop, 3);
            Check.due(run + ": the place of " + hop, Check.oneIf(place > before), 1);
            before = place;
        }
    }
}
