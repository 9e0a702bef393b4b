/** The promises 6 to 9, sentence by sentence: hop, play, playAll, giveUp. */
final class Promise6To9Test {
    private static final int NO_SUCH = -1, BAD_VALUE = -2, BAD_TEXT = -3, NOT_POSSIBLE = -5, NONE = -6;

    private Promise6To9Test() {
    }

    static void run() {
        promise6MakesAHop();
        promise6ItsNumber();
        promise6Seconds();
        promise6IsAChange();
        promise6HowTheGameIsThen();
        promise6NoSuchHop();
        promise6GameHasEnded();
        promise6SecondsOutOfRange();
        promise7MakesAHop();
        promise7LowestNumber();
        promise7IsAChange();
        promise7HowTheGameIsThen();
        promise7NoSuchSquare();
        promise7NoSuchHop();
        promise8UpToTheFirstThatIsNotPossible();
        promise8ToldAsAJumpOrNot();
        promise8JumpsOn();
        promise8EmptiesThePad();
        promise8UseUpNoTime();
        promise8IsOneChange();
        promise8HowManyWereMade();
        promise8FaultStays();
        promise9SideToMoveHasLost();
        promise9IsAChange();
        promise9HowTheGameIsThen();
        promise9HasEnded();
    }

    private static void promise6MakesAHop() {
        Check.sentence(6, "Makes a hop.");
        RingDraughts x = new RingDraughts();
        Check.due("a step", x.hop(1, 0), 0);
        Check.due("from", x.square(12, 0), NONE);
        Check.due("to", x.square(23, 0), 0);
        Check.counts("a step", x, 0, 1, 12, 1, NONE, 1, 0);
        RingDraughts jump = Check.board(0, 0, 1, 20, 2, 24, 2);
        int hop = 0;
        while (hop < 40 && (jump.ofHop(hop, 1) != 9 || jump.ofHop(hop, 4) != 20)) hop++;
        Check.due("a king's jump that is neither the nearest nor the farthest", jump.hop(hop, 0), 0);
        Check.due("it comes to", jump.square(9, 0), 1);
        Check.due("it takes", jump.square(20, 0), NONE);
        Check.due("it takes no other", jump.square(24, 0), 2);
        Check.side("the other side", jump, 1, 1, 0, 600, 1);
    }

    private static void promise6ItsNumber() {
        Check.sentence(6, "`hop`: its number");
        for (int hop = 0; hop < 12; hop++) {
            RingDraughts x = new RingDraughts();
            int from = x.ofHop(hop, 0);
            int to = x.ofHop(hop, 1);
            Check.due("hop " + hop, x.hop(hop, 0), 0);
            Check.due("hop " + hop + " from", x.square(from, 0), NONE);
            Check.due("hop " + hop + " to", x.square(to, 0), 0);
            Check.side("hop " + hop, x, 0, 12, 0);
        }
    }

    private static void promise6Seconds() {
        Check.sentence(6, "`seconds`: 0 to 9999, that it uses up");
        RingDraughts x = new RingDraughts();
        x.clock(9999);
        x.begin(false);
        Check.due("none", x.hop(0, 0), 0);
        Check.due("the clock of 0", x.side(0, 2), 9999);
        Check.due("the most", x.hop(0, 9999), 0);
        Check.due("the clock of 1", x.side(1, 2), 0);
        Check.due("the most but one", x.hop(0, 9998), 0);
        Check.due("the clock of 0 then", x.side(0, 2), 1);
        Check.due("one, of an empty clock", x.hop(0, 1), 1);
    }

    private static void promise6IsAChange() {
        Check.sentence(6, "This is a change.");
        Check.change("a hop", new RingDraughts(), x -> x.hop(11, 600));
        Check.change("a hop beyond the clock", new RingDraughts(), x -> x.hop(11, 601));
        RingDraughts jump = Check.board(0, 0, 0, 6, 2, 19, 2);
        Check.change("a jump", jump, x -> x.hop(0, 1));
        jump.hop(0, 1);
        Check.change("a second jump, by which the game ends", jump, x -> x.hop(0, 1));
        RingDraughts quiet = Quiet.board();
        Quiet.hops(quiet, 0, 59);
        Check.change("a hop by which the game is drawn", quiet, x -> x.hop(0, 1));
        Check.change("a man that becomes a king", Check.board(0, 42, 0, 3, 2), x -> x.hop(x.count(2) - 1, 1));
    }

    private static void promise6HowTheGameIsThen() {
        Check.sentence(6, "Returns how the game is then (0 to 3)");
        Check.due("0", new RingDraughts().hop(0, 600), 0);
        Check.due("1", Check.board(0, 0, 0, 6, 2).hop(0, 0), 1);
        Check.due("2, by taking the last one", Check.board(1, 6, 0, 13, 2).hop(0, 0), 2);
        Check.due("2, by the clock", new RingDraughts().hop(0, 601), 2);
        RingDraughts drawn = Check.board(0, 0, 1, 1, 3);
        int[] froms = {0, 1, 13, 14, 0, 1, 13};
        int[] tos = {13, 14, 0, 1, 13, 14, 0};
        for (int i = 0; i < 7; i++) drawn.play(froms[i], tos[i]);
        int hop = 0;
        while (hop < 92 && drawn.ofHop(hop, 1) != 1) hop++;
        Check.due("3", drawn.hop(hop, 0), 3);
        RingDraughts quiet = Quiet.board();
        Quiet.hops(quiet, 0, 59);
        Check.due("3, by any quiet hop", quiet.hop(5, 0), 3);
    }

    private static void promise6NoSuchHop() {
        Check.sentence(6, "NO_SUCH if there is no such hop (or the game has ended)");
        RingDraughts x = new RingDraughts();
        int[] wrong = {-1, 12, 13, NONE, 48, 191, 192, 1000, Integer.MIN_VALUE, Integer.MAX_VALUE};
        for (int hop : wrong) {
            Check.due("hop " + hop, x.hop(hop, 0), NO_SUCH);
            Check.due("hop " + hop + ", no seconds", x.hop(hop, -1), NO_SUCH);
            Check.due("hop " + hop + ", beyond the clock", x.hop(hop, 601), NO_SUCH);
        }
        Check.due("no change", x.count(9), 0);
        Check.due("the last one", x.hop(11, 0), 0);
        RingDraughts kings = Check.board(0, 0, 1, 1, 3);
        Check.due("92 of a king", kings.hop(92, 0), NO_SUCH);
        Check.due("the last one of a king", kings.hop(91, 0), 0);
        RingDraughts jump = Check.board(0, 0, 0, 6, 2, 3, 0, 20, 0);
        Check.due("one jump", jump.hop(1, 0), NO_SUCH);
        Check.due("the jump", jump.hop(0, 0), 1);
    }

    private static void promise6GameHasEnded() {
        Check.sentence(6, "(or the game has ended)");
        for (int kind = 0; kind < Ended.KINDS; kind++) {
            RingDraughts x = Ended.game(kind);
            int made = x.count(3);
            Check.due("behind " + Ended.name(kind), x.hop(0, 0), NO_SUCH);
            Check.due("no seconds, behind " + Ended.name(kind), x.hop(0, -1), NO_SUCH);
            Check.due("hops made, behind " + Ended.name(kind), x.count(3), made);
            Check.due("how it is, behind " + Ended.name(kind), x.count(0), Ended.HOW[kind]);
        }
        RingDraughts empty = new RingDraughts();
        empty.begin(true);
        Check.due("on an empty board", empty.hop(0, 0), NO_SUCH);
    }

    private static void promise6SecondsOutOfRange() {
        Check.sentence(6, "BAD_VALUE if seconds is out of range.");
        RingDraughts x = new RingDraughts();
        int[] wrong = {-1, 10000, NONE, 10001, -9999, Integer.MIN_VALUE, Integer.MAX_VALUE};
        for (int seconds : wrong) {
            Check.due("hop 0 " + seconds, x.hop(0, seconds), BAD_VALUE);
            Check.due("hop 11 " + seconds, x.hop(11, seconds), BAD_VALUE);
        }
        Check.due("no change", x.count(9), 0);
        Check.due("how it is", x.count(0), 0);
        Check.due("the clock", x.side(0, 2), 600);
        Check.due("9999 is in range", x.hop(0, 9999), 2);
    }

    private static void promise7MakesAHop() {
        Check.sentence(7, "Makes a hop that is told by its squares, and uses up no time.");
        RingDraughts x = new RingDraughts();
        Check.due("12 to 23", x.play(12, 23), 0);
        Check.due("from", x.square(12, 0), NONE);
        Check.due("to", x.square(23, 0), 0);
        Check.counts("12 to 23", x, 0, 1, 12, 1);
        Check.due("no time", x.side(0, 2), 600);
        x.hop(0, 600);
        Check.due("15 to 20", x.play(15, 20), 0);
        Check.due("no time of an empty clock", x.play(33, 27), 0);
        Check.due("the empty clock", x.side(1, 2), 0);
        RingDraughts last = Check.board(0, 47, 0, 20, 2);
        Check.due("from the last square to the first", last.play(47, 0), 0);
        Check.due("to the first", last.square(0, 0), 1);
    }

    /** From 0 to 13 there are four ways, over 6 in two steps, over 11 in 10, over 42 in 14, over 47 in 22. */
    private static void promise7LowestNumber() {
        Check.sentence(7, "If several hops go from the one to the other, the one with the lowest number is made.");
        int[] prey = {6, 11, 42, 47};
        int[] steps = {2, 10, 14, 22};
        for (int first = 0; first < 4; first++) {
            RingDraughts x = Check.board(0, 0, 1);
            for (int i = first; i < 4; i++) x.set(prey[i], 2);
            for (int i = first; i < 4; i++) {
                Check.due("over " + prey[i], Check.oneIf(Check.hasHop(x, 0, 13, steps[i], prey[i])), 1);
            }
            x.play(0, 13);
            for (int i = first; i < 4; i++) {
                Check.due("lowest over " + prey[first] + ": " + prey[i], x.square(prey[i], 0), i == first ? NONE : 2);
            }
        }
    }

    private static void promise7IsAChange() {
        Check.sentence(7, "This is a change.");
        Check.change("a step", new RingDraughts(), x -> x.play(17, 22));
        Check.change("a jump", Check.board(0, 0, 0, 6, 2, 19, 2), x -> x.play(0, 13));
        Check.change("the last jump", Check.board(0, 0, 0, 6, 2), x -> x.play(0, 13));
        Check.change("a man that becomes a king", Check.board(1, 0, 2, 20, 0), x -> x.play(0, 47));
    }

    private static void promise7HowTheGameIsThen() {
        Check.sentence(7, "Returns how the game is then");
        Check.due("0", new RingDraughts().play(12, 18), 0);
        Check.due("1", Check.board(0, 0, 0, 6, 2).play(0, 13), 1);
        Check.due("2", Check.board(1, 6, 0, 13, 2).play(13, 0), 2);
        RingDraughts quiet = Quiet.board();
        Check.due("3", Quiet.hops(quiet, 0, 60), 3);
    }

    private static void promise7NoSuchSquare() {
        Check.sentence(7, "NO_SUCH if there is no such square");
        RingDraughts x = new RingDraughts();
        int[] wrong = {-1, 48, NONE, 49, Integer.MIN_VALUE, Integer.MAX_VALUE};
        for (int square : wrong) {
            Check.due("play " + square + " 18", x.play(square, 18), NO_SUCH);
            Check.due("play 12 " + square, x.play(12, square), NO_SUCH);
            Check.due("play both " + square, x.play(square, square), NO_SUCH);
        }
        Check.due("no change", x.count(9), 0);
        x.giveUp();
        Check.due("ended: no such square, from", x.play(48, 18), NO_SUCH);
        Check.due("ended: no such square, to", x.play(12, 48), NO_SUCH);
    }

    private static void promise7NoSuchHop() {
        Check.sentence(7, "NOT_POSSIBLE if there is no such hop.");
        RingDraughts x = new RingDraughts();
        int[] froms = {0, 47, 18, 12, 12, 12, 6, 30, 12, 0};
        int[] tos = {0, 47, 24, 12, 13, 19, 12, 24, 6, 47};
        for (int i = 0; i < froms.length; i++) {
            Check.due("play " + froms[i] + " " + tos[i], x.play(froms[i], tos[i]), NOT_POSSIBLE);
        }
        Check.due("no change", x.count(9), 0);
        RingDraughts jump = Check.board(0, 20, 0, 27, 2, 3, 0);
        Check.due("a step where a jump is due", jump.play(3, 9), NOT_POSSIBLE);
        Check.due("onto the piece that is taken", jump.play(20, 27), NOT_POSSIBLE);
        Check.due("the jump", jump.play(20, 33), 1);
        for (int kind = 0; kind < Ended.KINDS; kind++) {
            RingDraughts ended = Ended.game(kind);
            for (int square = 0; square < 48; square++) {
                Check.due("from " + square + " behind " + Ended.name(kind), ended.play(square, ended.step(square, 0)), NOT_POSSIBLE);
            }
        }
    }

    private static void promise8UpToTheFirstThatIsNotPossible() {
        Check.sentence(8, "Makes the hops of the pad, one after the other, up to the first one that is not possible");
        RingDraughts x = new RingDraughts();
        Check.due("the first one is not possible", Check.playText(x, "12-19,12-18"), 0);
        Check.due("nothing was made", x.square(12, 0), 0);
        Check.due("the third one is not possible", Check.playText(x, "12-18,30-24,30-24,13-19"), 2);
        Check.due("two were made", x.count(3), 2);
        Check.due("the fourth one was not", x.square(13, 0), 0);
        Check.due("the other side's", Check.playText(x, "31-25"), 0);
        Check.due("from a square to itself", Check.playText(x, "0-0"), 0);
        Check.due("all are possible", Check.playText(x, "17-22,35-29"), 2);
        RingDraughts last = Check.board(0, 0, 0, 6, 2, 20, 0);
        Check.due("none behind the end of the game", Check.playText(last, "0x13,20-27"), 1);
        Check.due("how it is", last.count(0), 1);
        for (int kind = 0; kind < Ended.KINDS; kind++) {
            RingDraughts ended = Ended.game(kind);
            int made = ended.count(3);
            Check.due("none behind " + Ended.name(kind), Check.playText(ended, "12-18,0-13"), 0);
            Check.due("hops made, behind " + Ended.name(kind), ended.count(3), made);
            Check.due("the pad, behind " + Ended.name(kind), ended.count(8), 0);
        }
    }

    private static void promise8ToldAsAJumpOrNot() {
        Check.sentence(8, "(also: that is told as a jump and is none, or the other way round)");
        RingDraughts x = new RingDraughts();
        Check.due("a step told as a jump", Check.playText(x, "12x18"), 0);
        Check.due("it is not made", x.count(3), 0);
        Check.due("the second one told as a jump", Check.playText(x, "12-18,30x24,30-24"), 1);
        RingDraughts jump = Check.board(0, 0, 0, 6, 2, 19, 2);
        Check.due("a jump told as none", Check.playText(jump, "0-13"), 0);
        Check.due("it takes nothing", jump.square(6, 0), 2);
        Check.due("the second jump told as none", Check.playText(jump, "0x13,13-26"), 1);
        Check.due("it is still to come", jump.count(4), 13);
        Check.due("told as it is", Check.playText(jump, "13x26"), 1);
        RingDraughts king = Check.board(0, 0, 1, 6, 2, 20, 0, 47, 2);
        Check.due("a jump with several ways", Check.playText(king, "0x13"), 1);
        Check.due("the lowest one is made", king.square(6, 0) * 100 + king.square(47, 0), NONE * 100 + 2);
    }

    private static void promise8JumpsOn() {
        Check.sentence(8, "Makes the hops of the pad, one after the other");
        RingDraughts x = Check.board(0, 0, 0, 6, 2, 19, 2, 44, 2, 3, 0, 9, 2);
        Check.due("not with another piece", Check.playText(x, "0x13,3x16"), 1);
        Check.due("the other side is not to move", Check.playText(x, "44-38"), 0);
        Check.due("with the same piece, and the other side", Check.playText(x, "13x26,44-38"), 2);
        Check.counts("behind it", x, 0, 0, x.count(2), 3, NONE);
    }

    private static void promise8EmptiesThePad() {
        Check.sentence(8, "and empties the pad");
        String[] texts = {"12-18", "12-18,30-24", "0-0", "12x18", "12-18,0-0", "12-18,35-29,6-12,41-35,13-19,34-28,7-13,40-34"};
        for (String text : texts) {
            RingDraughts x = new RingDraughts();
            Check.putText(x, text);
            Check.due("the length of " + text, x.count(8), text.length());
            x.playAll();
            Check.due("the length behind " + text, x.count(8), 0);
            Check.due("the fault behind " + text, x.fault(), 0);
            Check.due("nothing more to play behind " + text, x.playAll(), BAD_TEXT);
            Check.due("room behind " + text, x.put('1'), 1);
        }
    }

    private static void promise8UseUpNoTime() {
        Check.sentence(8, "They use up no time.");
        RingDraughts x = new RingDraughts();
        x.hop(11, 600);
        x.hop(0, 599);
        Check.due("with hardly any time", Check.playText(x, "15-20,33-27"), 2);
        Check.due("the clock of 0", x.side(0, 2), 0);
        Check.due("the clock of 1", x.side(1, 2), 1);
        Check.due("how it is", x.count(0), 0);
    }

    private static void promise8IsOneChange() {
        Check.sentence(8, "This is a change (one, with all of them; also if none is made).");
        Check.change("three hops", new RingDraughts(), x -> Check.playText(x, "12-18,30-24,13-19"));
        Check.change("one hop", new RingDraughts(), x -> Check.playText(x, "12-18,0-1"));
        Check.change("no hop", new RingDraughts(), x -> Check.playText(x, "0-1"));
        RingDraughts ended = Ended.game(0);
        Check.change("in an ended game", ended, x -> Check.playText(x, "12-18"));
        RingDraughts x = new RingDraughts();
        x.clock(700);
        Check.due("eight hops", Check.playText(x, "12-18,35-29,6-12,41-35,13-19,34-28,7-13,40-34"), 8);
        Check.due("are one change", x.count(9), 2);
        Check.due("undo", x.undo(), 1);
        Check.due("all are undone", x.count(3), 0);
        Check.due("undo the one before", x.undo(), 0);
        Check.due("it is undone", x.count(7), 600);
        RingDraughts fault = new RingDraughts();
        Check.playText(fault, "12-18,");
        Check.due("a fault is no change", fault.count(9), 0);
    }

    /** The longest text of hops that can be made: 11 hops in 60 characters. */
    private static void promise8HowManyWereMade() {
        Check.sentence(8, "Returns how many were made");
        RingDraughts x = Check.board(0, 4, 0, 6, 0, 7, 0, 8, 0, 9, 0, 36, 2, 37, 2, 38, 2, 39, 2, 40, 2);
        String text = "6-12,36-30,7-13,37-31,8-14,38-32,9-15,39-33,4-10,40-34,12-18";
        Check.due("a full pad", Check.putText(x, text), 60);
        Check.due("its fault", x.fault(), NONE);
        Check.due("all were made", x.playAll(), 11);
        Check.due("hops made", x.count(3), 11);
        Check.due("the last one", x.square(18, 0), 0);
        Check.due("none", Check.playText(x, "18-24"), 0);
        Check.due("one", Check.playText(x, "30-25"), 1);
    }

    private static void promise8FaultStays() {
        Check.sentence(8, "BAD_TEXT if the pad has a fault (then it stays).");
        String[] texts = {"", "1", "12-", "12-18,", "12-18,30-", "12-18,30-48", "12-18;30-24", "012-18", "12-18x", "a"};
        for (String text : texts) {
            RingDraughts x = new RingDraughts();
            Check.due("playAll of " + text, Check.playText(x, text), BAD_TEXT);
            Check.due("the length of " + text, x.count(8), text.length());
            Check.counts("nothing is made of " + text, x, 0, 0, 12, 0);
            Check.due("no change by " + text, x.count(9), 0);
        }
        RingDraughts x = new RingDraughts();
        Check.playText(x, "12-18,3");
        Check.due("what stayed goes on", Check.playText(x, "0-24"), 2);
        RingDraughts ended = Ended.game(0);
        Check.due("in an ended game, too", Check.playText(ended, "12-"), BAD_TEXT);
        Check.due("its pad stays", ended.count(8), 3);
    }

    private static void promise9SideToMoveHasLost() {
        Check.sentence(9, "Gives the game up: the side that is to move has lost.");
        RingDraughts x = new RingDraughts();
        x.giveUp();
        Check.counts("the side 0", x, 2, 0, 0, 0, NONE, 1, 0);
        RingDraughts y = new RingDraughts();
        y.hop(0, 0);
        y.giveUp();
        Check.counts("the side 1", y, 1, 1, 0, 1, NONE, 1, 0);
        RingDraughts jump = Check.board(0, 0, 0, 6, 2, 19, 2);
        jump.play(0, 13);
        Check.due("a side that has to jump on", jump.giveUp(), 2);
        Check.side("nothing else is lost", jump, 0, 1, 0, 600, 0);
        Check.due("the pieces stay", jump.square(13, 0), 0);
    }

    private static void promise9IsAChange() {
        Check.sentence(9, "This is a change.");
        Check.change("at first", new RingDraughts(), x -> x.giveUp());
        RingDraughts jump = Check.board(0, 0, 0, 6, 2, 19, 2);
        jump.play(0, 13);
        Check.change("amidst jumps", jump, x -> x.giveUp());
        Check.due("has to jump on", jump.count(4), 13);
        Check.due("the game goes on", jump.play(13, 26), 1);
    }

    private static void promise9HowTheGameIsThen() {
        Check.sentence(9, "Returns how the game is then");
        RingDraughts x = new RingDraughts();
        Check.due("0 gives up", x.giveUp(), 2);
        x.turn(1);
        Check.due("1 gives up", x.giveUp(), 1);
    }

    private static void promise9HasEnded() {
        Check.sentence(9, "NOT_POSSIBLE if it has ended.");
        for (int kind = 0; kind < Ended.KINDS; kind++) {
            RingDraughts x = Ended.game(kind);
            int changes = x.count(9);
            Check.due("behind " + Ended.name(kind), x.giveUp(), NOT_POSSIBLE);
            Check.due("how it is, behind " + Ended.name(kind), x.count(0), Ended.HOW[kind]);
            Check.due("no change behind " + Ended.name(kind), x.count(9), changes);
        }
        RingDraughts empty = new RingDraughts();
        empty.begin(true);
        Check.due("on an empty board", empty.giveUp(), NOT_POSSIBLE);
    }
}
