/** Promises 21 to 23: undo, save, restore. */
final class BackTest {
    private static final int BAD_VALUE = -2, NOT_POSSIBLE = -5, NONE = -6;

    private BackTest() {
    }

    static void run() {
        undoAnswers();
        undoKeepsSix();
        undoOfEachChange();
        undoBringsAllBack();
        errorsAndLooksAreNoChanges();
        saveAnswers();
        restoreAnswers();
        restoreBringsAllBack();
        slotsStandAlone();
    }

    private static void undoAnswers() {
        RingDraughts x = new RingDraughts();
        Check.due("undo: nothing", x.undo(), NOT_POSSIBLE);
        x.hop(0, 1);
        x.hop(0, 2);
        Check.due("undo 2nd", x.undo(), 1);
        Check.due("undo: hops", x.count(3), 1);
        Check.due("undo 1st", x.undo(), 0);
        Check.due("undo: hops", x.count(3), 0);
        Check.due("undo: none left", x.undo(), NOT_POSSIBLE);
    }

    private static void undoKeepsSix() {
        RingDraughts x = new RingDraughts();
        for (int i = 1; i <= 9; i++) {
            x.hop(0, i);
            Check.due("six: changes after " + i, x.count(9), Math.min(i, 6));
        }
        for (int i = 8; i >= 3; i--) {
            Check.due("six: undo", x.undo(), i - 3);
            Check.due("six: hops left", x.count(3), i);
        }
        Check.due("six: no more", x.undo(), NOT_POSSIBLE);
        Check.due("six: stays", x.count(3), 3);
        x.hop(0, 0);
        Check.due("six: goes on", x.count(9), 1);
        x.undo();
        Check.due("six: and back", x.count(3), 3);
    }

    /** All that can be asked, in one text. */
    private static String all(RingDraughts x) {
        StringBuilder text = new StringBuilder();
        for (int what = 0; what < 8; what++) text.append(x.count(what)).append(' ');
        for (int i = 0; i < 10; i++) text.append(x.side(i / 5, i % 5)).append(' ');
        for (int square = 0; square < 48; square++) text.append(x.square(square, 0)).append(' ');
        return text.append(x.rows(2)).toString();
    }

    private static void same(String what, String got, String want) {
        Check.due(what + " gives " + got + ", not " + want, Check.oneIf(got.equals(want)), 1);
    }

    private static void change(RingDraughts x, int kind) {
        switch (kind) {
            case 0: x.clock(11); break;
            case 1: x.begin(false); break;
            case 2: x.set(20, 3); break;
            case 3: x.turn(0); break;
            case 4: x.hop(1, 4); break;
            case 5: x.play(x.ofHop(0, 0), x.ofHop(0, 1)); break;
            case 6: Check.putText(x, "47-47"); x.playAll(); break;
            case 7: x.giveUp(); break;
            case 8: x.hop(0, 9999); break;
            case 9: x.restore(1); break;
            case 10: x.clock(600); break;
            default: Check.putText(x, x.ofHop(1, 0) + "-" + x.ofHop(1, 1)); x.playAll(); break;
        }
    }

    private static void undoOfEachChange() {
        for (int kind = 0; kind <= 11; kind++) {
            RingDraughts x = new RingDraughts();
            x.save(1);
            x.hop(0, 3);
            x.hop(0, 5);
            x.hop(0, 0);
            String before = all(x);
            change(x, kind);
            Check.due("undo: change " + kind, x.count(9), 4);
            Check.due("undo of change " + kind, x.undo(), 3);
            same("undo of change " + kind, all(x), before);
        }
    }

    private static void undoBringsAllBack() {
        RingDraughts x = Check.board(0, 0, 1, 1, 3);
        int[] hops = {0, 13, 1, 14, 13, 0, 14, 1, 0, 13, 1, 14, 13, 0, 14, 1};
        for (int i = 0; i < 8; i++) x.play(hops[2 * i], hops[2 * i + 1]);
        Check.due("undo: drawn", x.count(0), 3);
        x.undo();
        Check.due("undo: goes on", x.count(0), 0);
        Check.due("undo: come", x.count(5), 2);
        Check.due("undo: quiet", x.count(6), 7);
        x.undo();
        x.play(13, 6);
        x.undo();
        Check.due("undo: the positions of another way don't count", x.count(5), 2);
        x.play(13, 0);
        Check.due("undo: and it is drawn again", x.play(14, 1), 3);
        RingDraughts y = Check.board(0, 0, 0, 6, 2, 19, 2, 47, 0);
        y.hop(0, 0);
        y.hop(0, 0);
        y.undo();
        Check.due("undo: has to jump on", y.count(4), 13);
        Check.due("undo: lost", y.side(1, 3), 1);
    }

    private static void errorsAndLooksAreNoChanges() {
        RingDraughts x = new RingDraughts();
        x.clock(9);
        x.set(48, 0);
        x.set(0, 4);
        x.turn(2);
        x.hop(12, 0);
        x.hop(0, -1);
        x.play(0, 1);
        x.playAll();
        x.put(Check.characters("1-1"));
        x.wipe();
        x.fault();
        x.undo();
        x.save(0);
        x.restore(1);
        x.restore(2);
        x.rows(1);
        x.worth(1);
        x.best(1);
        Check.due("no changes", x.count(9), 0);
        x.giveUp();
        x.giveUp();
        Check.due("one change", x.count(9), 1);
    }

    private static void saveAnswers() {
        RingDraughts x = new RingDraughts();
        int[] wrong = {Integer.MIN_VALUE, -1, 2, Integer.MAX_VALUE};
        for (int slot : wrong) {
            Check.due("save " + slot, x.save(slot), BAD_VALUE);
            Check.due("restore " + slot, x.restore(slot), BAD_VALUE);
        }
        Check.due("save 0", x.save(0), 0);
        x.hop(0, 0);
        x.hop(0, 0);
        Check.due("save 1", x.save(1), 2);
        Check.due("save: no change", x.count(9), 2);
    }

    private static void restoreAnswers() {
        RingDraughts x = new RingDraughts();
        Check.due("restore: nothing saved", x.restore(0), NOT_POSSIBLE);
        x.hop(0, 0);
        x.save(0);
        Check.due("restore: nothing in the other slot", x.restore(1), NOT_POSSIBLE);
        x.hop(0, 0);
        x.hop(0, 0);
        Check.due("restore: hops", x.restore(0), 1);
        Check.due("restore: a change", x.count(9), 4);
        x.hop(0, 0);
        Check.due("restore: the slot keeps it", x.restore(0), 1);
        Check.due("restore: undo", x.undo(), 5);
        Check.due("restore: undone", x.count(3), 2);
        x.begin(true);
        Check.due("save over it", x.save(0), 0);
        x.begin(false);
        Check.due("restore what was saved last", x.restore(0), 0);
        Check.due("restore: the empty board", x.count(0), 2);
    }

    private static void restoreBringsAllBack() {
        RingDraughts x = new RingDraughts();
        x.clock(33);
        x.hop(0, 3);
        x.hop(0, 5);
        x.giveUp();
        String before = all(x);
        x.save(1);
        x.clock(44);
        x.begin(true);
        Check.putText(x, "1-2");
        Check.due("restore: hops", x.restore(1), 2);
        same("restore", all(x), before);
        Check.due("restore: CLOCK", x.count(7), 33);
        Check.due("restore: the pad is left", x.count(8), 3);
        Check.due("restore: the history is left", x.count(9), 6);
        RingDraughts y = Check.board(0, 0, 1, 1, 3);
        y.play(0, 13);
        y.play(1, 14);
        y.play(13, 0);
        y.play(14, 1);
        y.save(0);
        y.begin(false);
        y.restore(0);
        Check.due("restore: come", y.count(5), 2);
        y.play(0, 13);
        y.play(1, 14);
        y.play(13, 0);
        Check.due("restore: third time", y.play(14, 1), 3);
        RingDraughts z = Check.board(0, 0, 0, 6, 2, 19, 2);
        z.hop(0, 0);
        z.save(0);
        z.begin(false);
        Check.due("restore: nobody jumps on", z.count(4), NONE);
        z.restore(0);
        Check.due("restore: has to jump on", z.count(4), 13);
    }

    private static void slotsStandAlone() {
        RingDraughts x = new RingDraughts();
        x.save(0);
        x.hop(0, 0);
        x.save(1);
        x.hop(0, 0);
        Check.due("slots: 1", x.restore(1), 1);
        x.hop(0, 0);
        x.hop(0, 0);
        Check.due("slots: 1 again", x.restore(1), 1);
        Check.due("slots: 0", x.restore(0), 0);
        for (int i = 0; i < 6; i++) x.undo();
        Check.due("slots: undo leaves them", x.restore(1), 1);
        x.begin(true);
        Check.due("slots: begin leaves them", x.restore(0), 0);
        Check.due("slots: a new object has its own", new RingDraughts().restore(0), NOT_POSSIBLE);
    }
}
