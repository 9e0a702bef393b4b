import java.util.function.Supplier;

/** How long an object is used, the conventions of errors, and the constants. */
final class TermsConventionsTest {
    private static final int NO_SUCH = -1, BAD_VALUE = -2, BAD_TEXT = -3, TOO_MANY = -4, NOT_POSSIBLE = -5, NONE = -6;

    private TermsConventionsTest() {
    }

    static void run() {
        introductionTheLastOf512Calls();
        termsConstants();
        termsErrorsInTheirOrder();
        termsErrorsChangeNothing();
        termsErrorsOfANewObjectChangeNothing();
        termsErrorsInAnEndedGameChangeNothing();
        termsLooksChangeNothing();
        termsOutlooksChangeNothing();
        termsNoneIsNoError();
        termsAllIsNumberedFromZero();
    }

    private static void introductionTheLastOf512Calls() {
        Check.sentence(Document.INTRODUCTION, "An object is used for at most 512 calls after it has been made");
        RingDraughts x = new RingDraughts();
        for (int i = 0; i < 255; i++) {
            x.hop(i % 12, 600);
            x.undo();
        }
        Check.due("call 511: a hop", x.hop(11, 600), 0);
        Check.due("call 512: the clock", x.side(0, 2), 0);
        RingDraughts y = new RingDraughts();
        for (int i = 0; i < 170; i++) {
            y.save(i % 2);
            y.begin(i % 4 == 0);
            y.restore(i % 2);
        }
        Check.due("call 511: the first game", y.count(2), 12);
        Check.due("call 512: undo", y.undo(), 5);
        Check.sentence(Document.INTRODUCTION, "a board of twelve columns and eight rows whose sides hang together");
        RingDraughts z = new RingDraughts();
        Check.due("a square at the right side and the left one beyond it", z.step(11, 2), 0);
        Check.due("a square at the upper side and the lower one beyond it", z.step(42, 0), 1);
    }

    private static void termsConstants() {
        Check.sentence(0, "The constants: `NO_SUCH = -1, BAD_VALUE = -2, BAD_TEXT = -3, TOO_MANY = -4, NOT_POSSIBLE = -5, NONE = -6`");
        Check.due("NO_SUCH", RingDraughts.NO_SUCH, NO_SUCH);
        Check.due("BAD_VALUE", RingDraughts.BAD_VALUE, BAD_VALUE);
        Check.due("BAD_TEXT", RingDraughts.BAD_TEXT, BAD_TEXT);
        Check.due("TOO_MANY", RingDraughts.TOO_MANY, TOO_MANY);
        Check.due("NOT_POSSIBLE", RingDraughts.NOT_POSSIBLE, NOT_POSSIBLE);
        Check.due("NONE", RingDraughts.NONE, NONE);
    }

    private static void termsErrorsInTheirOrder() {
        Check.sentence(0, "it names its errors in the order in which they are checked, and the first one that applies is returned");
        RingDraughts x = crowded();
        Check.due("set: no square, no piece", x.set(48, 4), NO_SUCH);
        Check.due("set: no square, too many", x.set(-1, 0), NO_SUCH);
        Check.due("set: no piece, where there would be too many", x.set(4, -1), BAD_VALUE);
        Check.due("set: too many alone", x.set(4, 0), TOO_MANY);
        Check.due("hop: no hop, no seconds", x.hop(x.count(2), -1), NO_SUCH);
        Check.due("hop: no seconds alone", x.hop(0, 10000), BAD_VALUE);
        Check.due("play: no square, and no hop", x.play(0, 48), NO_SUCH);
        Check.due("square: no square, no what", x.square(48, 5), NO_SUCH);
        Check.due("step: no square, no way", x.step(-1, 4), NO_SUCH);
        Check.due("ofHop: no hop, no what", x.ofHop(x.count(2), 7), NO_SUCH);
        Check.putText(x, "x".repeat(60));
        Check.due("put: no character, and no room", x.put(0), BAD_VALUE);
        Check.due("put: a bad code, and no room", x.put(32), BAD_VALUE);
        Check.due("put: a gap, and no room", x.put(0x310031), BAD_VALUE);
        Check.due("put: no room alone", x.put('x'), TOO_MANY);
        Check.due("restore: no slot, and nothing saved", x.restore(2), BAD_VALUE);
        Check.due("restore: nothing saved alone", x.restore(1), NOT_POSSIBLE);
        x.giveUp();
        Check.due("ended, hop: no seconds", x.hop(0, -1), NO_SUCH);
        Check.due("ended, play: no square", x.play(48, 12), NO_SUCH);
        Check.due("ended, ofHop: no what", x.ofHop(0, 7), NO_SUCH);
        Check.due("ended, rows 0", x.rows(0), BAD_VALUE);
        Check.due("ended, rows 4", x.rows(4), BAD_VALUE);
        Check.due("ended, worth -1", x.worth(-1), BAD_VALUE);
        Check.due("ended, worth 3", x.worth(3), BAD_VALUE);
        Check.due("ended, best 0", x.best(0), BAD_VALUE);
        Check.due("ended, best 3", x.best(3), BAD_VALUE);
    }

    /** The first board with four more pieces of each side, the most that there may be. */
    private static RingDraughts crowded() {
        RingDraughts x = new RingDraughts();
        for (int i = 0; i < 4; i++) {
            x.set(i, i % 2);
            x.set(42 + i, 2 + i % 2);
        }
        return x;
    }

    /** Behind a jump, with one more to come: the history is full, a slot too, and the pad has a fault. */
    private static RingDraughts amidst() {
        RingDraughts x = new RingDraughts();
        x.clock(50);
        x.begin(true);
        int[] pieces = {0, 0, 6, 2, 19, 2, 3, 0, 9, 2, 44, 3};
        for (int i = 0; i < pieces.length; i += 2) x.set(pieces[i], pieces[i + 1]);
        x.save(0);
        x.play(0, 13);
        Check.putText(x, "13x");
        return x;
    }

    private static void error(String name, Supplier<RingDraughts> board, String all, Check.Call call, int want) {
        RingDraughts x = board.get();
        Check.due(name, call.on(x), want);
        Check.same(name, State.ofAll(x), all);
    }

    private static void termsErrorsChangeNothing() {
        Check.sentence(0, "A call that returns an error changes nothing.");
        Supplier<RingDraughts> board = TermsConventionsTest::amidst;
        String all = State.ofAll(board.get());
        int[] edges = {Integer.MIN_VALUE, NONE - 1, -1, 10000, Integer.MAX_VALUE};
        for (int edge : edges) {
            error("clock " + edge, board, all, x -> x.clock(edge), BAD_VALUE);
            error("set " + edge + " 0", board, all, x -> x.set(edge, 0), NO_SUCH);
            error("set 0 " + edge, board, all, x -> x.set(0, edge), BAD_VALUE);
            error("turn " + edge, board, all, x -> x.turn(edge), BAD_VALUE);
            error("hop " + edge + " 0", board, all, x -> x.hop(edge, 0), NO_SUCH);
            error("hop 0 " + edge, board, all, x -> x.hop(0, edge), BAD_VALUE);
            error("play " + edge + " 26", board, all, x -> x.play(edge, 26), NO_SUCH);
            error("play 13 " + edge, board, all, x -> x.play(13, edge), NO_SUCH);
            error("square " + edge + " 0", board, all, x -> x.square(edge, 0), NO_SUCH);
            error("square 0 " + edge, board, all, x -> x.square(0, edge), BAD_VALUE);
            error("step " + edge + " 0", board, all, x -> x.step(edge, 0), NO_SUCH);
            error("step 0 " + edge, board, all, x -> x.step(0, edge), BAD_VALUE);
            error("ofHop " + edge + " 0", board, all, x -> x.ofHop(edge, 0), NO_SUCH);
            error("ofHop 0 " + edge, board, all, x -> x.ofHop(0, edge), BAD_VALUE);
            error("side " + edge + " 0", board, all, x -> x.side(edge, 0), BAD_VALUE);
            error("side 0 " + edge, board, all, x -> x.side(0, edge), BAD_VALUE);
            error("count " + edge, board, all, x -> x.count(edge), BAD_VALUE);
            error("rows " + edge, board, all, x -> x.rows(edge), BAD_VALUE);
            error("worth " + edge, board, all, x -> x.worth(edge), BAD_VALUE);
            error("best " + edge, board, all, x -> x.best(edge), BAD_VALUE);
            error("save " + edge, board, all, x -> x.save(edge), BAD_VALUE);
            error("restore " + edge, board, all, x -> x.restore(edge), BAD_VALUE);
        }
        error("play another piece", board, all, x -> x.play(3, 16), NOT_POSSIBLE);
        error("play a step", board, all, x -> x.play(13, 18), NOT_POSSIBLE);
        error("playAll of half a hop", board, all, x -> x.playAll(), BAD_TEXT);
        error("put nothing", board, all, x -> x.put(0), BAD_VALUE);
        error("put a bad code", board, all, x -> x.put(127), BAD_VALUE);
        error("put a gap", board, all, x -> x.put(0x32003600L), BAD_VALUE);
        error("restore where nothing is", board, all, x -> x.restore(1), NOT_POSSIBLE);
    }

    private static void termsErrorsOfANewObjectChangeNothing() {
        Check.sentence(0, "A call that returns an error changes nothing.");
        Supplier<RingDraughts> board = RingDraughts::new;
        String all = State.ofAll(board.get());
        error("new: undo", board, all, x -> x.undo(), NOT_POSSIBLE);
        error("new: restore 0", board, all, x -> x.restore(0), NOT_POSSIBLE);
        error("new: restore 1", board, all, x -> x.restore(1), NOT_POSSIBLE);
        error("new: playAll of nothing", board, all, x -> x.playAll(), BAD_TEXT);
        error("new: play", board, all, x -> x.play(18, 24), NOT_POSSIBLE);
        error("new: hop 12", board, all, x -> x.hop(12, 0), NO_SUCH);
        error("new: clock 9", board, all, x -> x.clock(9), BAD_VALUE);
    }

    private static RingDraughts crowdedAndEnded() {
        RingDraughts x = crowded();
        x.giveUp();
        x.save(1);
        Check.putText(x, "12-18,".repeat(10));
        return x;
    }

    private static void termsErrorsInAnEndedGameChangeNothing() {
        Check.sentence(0, "A call that returns an error changes nothing.");
        Supplier<RingDraughts> board = TermsConventionsTest::crowdedAndEnded;
        String all = State.ofAll(board.get());
        error("ended: set one too many", board, all, x -> x.set(20, 0), TOO_MANY);
        error("ended: set one too many of 1", board, all, x -> x.set(6, 3), TOO_MANY);
        error("ended: hop", board, all, x -> x.hop(0, 0), NO_SUCH);
        error("ended: play", board, all, x -> x.play(12, 18), NOT_POSSIBLE);
        error("ended: playAll of a text that ends too early", board, all, x -> x.playAll(), BAD_TEXT);
        error("ended: giveUp", board, all, x -> x.giveUp(), NOT_POSSIBLE);
        error("ended: ofHop", board, all, x -> x.ofHop(0, 0), NO_SUCH);
        error("ended: worth", board, all, x -> x.worth(0), NOT_POSSIBLE);
        error("ended: best", board, all, x -> x.best(2), NOT_POSSIBLE);
        error("ended: put one too many", board, all, x -> x.put('1'), TOO_MANY);
        error("ended: restore 0", board, all, x -> x.restore(0), NOT_POSSIBLE);
    }

    private static void look(String name, Supplier<RingDraughts> board, String all, Check.Call call) {
        RingDraughts x = board.get();
        call.on(x);
        Check.same(name, State.ofAll(x), all);
    }

    private static void termsLooksChangeNothing() {
        Check.sentence(0, "---- what there is; nothing changes.");
        Supplier<RingDraughts> board = TermsConventionsTest::amidst;
        String all = State.ofAll(board.get());
        for (int i = 0; i < 10; i++) {
            int what = i;
            look("square 13 " + what, board, all, x -> x.square(13, what % 5));
            look("square 9 " + what, board, all, x -> x.square(9, what % 5));
            look("step 13 " + what, board, all, x -> x.step(13, what % 4));
            look("ofHop 0 " + what, board, all, x -> x.ofHop(0, what % 7));
            look("side " + what, board, all, x -> x.side(what / 5, what % 5));
            look("count " + what, board, all, x -> x.count(what));
        }
    }

    private static void termsOutlooksChangeNothing() {
        Check.sentence(0, "---- what if; nothing changes; clocks and draws do not matter.");
        Supplier<RingDraughts> board = TermsConventionsTest::amidst;
        String all = State.ofAll(board.get());
        for (int hops = 0; hops <= 3; hops++) {
            int depth = hops;
            look("rows " + depth, board, all, x -> x.rows(depth));
            look("worth " + depth, board, all, x -> x.worth(depth));
            look("best " + depth, board, all, x -> x.best(depth));
        }
        look("fault", board, all, x -> x.fault());
    }

    private static void termsNoneIsNoError() {
        Check.sentence(0, "NONE (-6) is not an error; it is returned only if no error applies.");
        RingDraughts x = new RingDraughts();
        Check.due("set NONE on a free square", x.set(0, NONE), NONE);
        Check.due("set NONE is a change", x.count(9), 1);
        Check.due("set no piece on a free square", x.set(0, NONE - 1), BAD_VALUE);
        Check.due("set NONE on no square", x.set(48, NONE), NO_SUCH);
        Check.due("a free square", x.square(0, 0), NONE);
        Check.due("no square", x.square(48, 0), NO_SUCH);
        Check.due("no what of a free square", x.square(0, 5), BAD_VALUE);
        Check.due("a hop that takes nothing", x.ofHop(0, 4), NONE);
        Check.due("no hop", x.ofHop(12, 4), NO_SUCH);
        Check.due("nobody has to jump on", x.count(4), NONE);
        Check.due("no what", x.count(10), BAD_VALUE);
        Check.putText(x, "0-0");
        Check.due("no fault", x.fault(), NONE);
    }

    private static void termsAllIsNumberedFromZero() {
        Check.sentence(0, "Everything is numbered from 0.");
        RingDraughts x = new RingDraughts();
        Check.due("squares: the first", x.square(0, 1) + x.square(0, 2), 0);
        Check.due("squares: the last", x.square(47, 1) + x.square(47, 2), 11 + 7);
        Check.due("ways: the last", x.step(47, 3), 41);
        Check.due("ways: behind the last", x.step(47, 4), BAD_VALUE);
        Check.due("hops: the first", x.ofHop(0, 0), 12);
        Check.due("hops: the last", x.ofHop(x.count(2) - 1, 0), 17);
        Check.due("hops: behind the last", x.ofHop(x.count(2), 0), NO_SUCH);
        Check.due("sides: the last", x.side(1, 0), 12);
        Check.due("sides: behind the last", x.side(2, 0), BAD_VALUE);
        Check.due("slots: the last", x.save(1), 0);
        Check.due("slots: behind the last", x.save(2), BAD_VALUE);
        Check.due("pieces: the last", x.set(0, 3), NONE);
        Check.due("pieces: behind the last", x.set(0, 4), BAD_VALUE);
        Check.putText(x, "a");
        Check.due("characters: the first", x.fault(), 0);
    }
}
