/** Promises 15 to 17: rows, worth, best. */
final class AheadTest {
    private static final int BAD_VALUE = -2, NOT_POSSIBLE = -5;
    private static final int[] FAR = {Integer.MIN_VALUE, -6, -1, 4, 1000, Integer.MAX_VALUE};

    private AheadTest() {
    }

    static void run() {
        rowsAnswers();
        rowsOfJumps();
        worthAnswers();
        worthOfSidesWithoutHops();
        bestAnswers();
        bestLooksAhead();
        drawsDoNotMatter();
        nothingChanges();
    }

    private static void rowsAnswers() {
        RingDraughts x = new RingDraughts();
        for (int wrong : FAR) Check.due("rows " + wrong, x.rows(wrong), BAD_VALUE);
        Check.due("rows 0", x.rows(0), BAD_VALUE);
        Check.due("rows 1", x.rows(1), 12);
        Check.due("rows 2", x.rows(2), 144);
        RingDraughts two = Check.board(0, 0, 0, 25, 2);
        Check.due("rows of two men, 1", two.rows(1), 2);
        Check.due("rows of two men, 2", two.rows(2), 4);
        Check.due("rows of two men, 3", two.rows(3), 8);
        RingDraughts many = Check.board(0, 0, 1, 1, 3, 2, 1);
        Check.due("rows: at most 20000", many.rows(3), 20000);
        x.giveUp();
        Check.due("rows: ended", x.rows(1), 0);
        Check.due("rows: ended, out of range", x.rows(4), BAD_VALUE);
    }

    private static void rowsOfJumps() {
        RingDraughts x = Check.board(0, 0, 0, 6, 2, 19, 2, 3, 0);
        Check.due("rows of jumps, 1", x.rows(1), 1);
        Check.due("rows of jumps, 2: with the same piece", x.rows(2), 1);
        Check.due("rows of jumps, 3: the other side has no piece", x.rows(3), 0);
        RingDraughts on = Check.board(0, 0, 0, 6, 2, 19, 2, 3, 0, 9, 2);
        on.play(0, 13);
        Check.due("rows: only of the piece that jumps on", on.rows(1), 1);
    }

    private static void worthAnswers() {
        RingDraughts x = new RingDraughts();
        for (int wrong : FAR) Check.due("worth " + wrong, x.worth(wrong), BAD_VALUE);
        Check.due("worth 3", x.worth(3), BAD_VALUE);
        x.giveUp();
        Check.due("worth: ended", x.worth(1), NOT_POSSIBLE);
        Check.due("worth: ended, out of range", x.worth(3), BAD_VALUE);
        RingDraughts y = Check.board(0, 0, 1, 4, 0, 1, 3, 44, 2, 46, 2);
        Check.due("worth 0: of the side to move", y.worth(0), 1000 + 4 - 5);
        y.turn(1);
        Check.due("worth 0: of the other side", y.worth(0), 1000 + 5 - 4);
        RingDraughts taken = Check.board(0, 0, 0, 6, 2, 3, 0, 33, 2);
        Check.due("worth 1: takes a man", taken.worth(1), 1001);
        RingDraughts crowned = Check.board(0, 42, 0, 27, 2);
        Check.due("worth 1: becomes a king", crowned.worth(1), 1002);
        Check.due("worth 0: not yet", crowned.worth(0), 1000);
        RingDraughts forced = Check.board(0, 0, 0, 6, 2, 19, 2, 3, 0, 44, 2);
        Check.due("worth 2: jumps on itself", forced.worth(2), 1001);
        RingDraughts lost = Check.board(0, 13, 0, 24, 2, 26, 2);
        Check.due("worth 1: nothing happens yet", lost.worth(1), 999);
        Check.due("worth 2: taken on 18 and on 19", lost.worth(2), 998);
        RingDraughts others = Check.board(0, 24, 0, 3, 2, 27, 2);
        Check.due("worth 2: the other side gets a king if it can", others.worth(2), 997);
    }

    private static void worthOfSidesWithoutHops() {
        RingDraughts x = Check.board(0, 0, 0, 6, 2);
        Check.due("worth 1: of the last piece", x.worth(1), 1001);
        Check.due("worth 2: the other side has no hop", x.worth(2), 1101);
        RingDraughts y = Check.board(1, 19, 2, 13, 0);
        Check.due("worth 2: side 0 has no hop", y.worth(2), 1101);
        RingDraughts king = Check.board(0, 0, 1, 20, 3);
        Check.due("worth 1: a king is worth 3", king.worth(1), 1003);
        Check.due("worth 2: and no hop 100", king.worth(2), 1103);
    }

    private static void bestAnswers() {
        RingDraughts x = new RingDraughts();
        for (int wrong : FAR) Check.due("best " + wrong, x.best(wrong), BAD_VALUE);
        Check.due("best 0", x.best(0), BAD_VALUE);
        Check.due("best 3", x.best(3), BAD_VALUE);
        Check.due("best 1: the lowest of many", x.best(1), 0);
        RingDraughts crowned = Check.board(0, 24, 0, 42, 0, 9, 2);
        Check.due("best 1: the first one to be a king", crowned.best(1), 2);
        Check.due("best 1: its square", crowned.ofHop(2, 0), 42);
        RingDraughts king = Check.board(0, 0, 0, 6, 2, 3, 0, 9, 3);
        Check.due("best 1: takes the king", king.ofHop(king.best(1), 4), 9);
        x.giveUp();
        Check.due("best: ended", x.best(1), NOT_POSSIBLE);
        Check.due("best: ended, out of range", x.best(0), BAD_VALUE);
        x.begin(true);
        Check.due("best: no hop", x.best(2), NOT_POSSIBLE);
    }

    /** The man on 13 is taken when it goes to 19, and is safe when it goes to 18. */
    private static void bestLooksAhead() {
        RingDraughts x = Check.board(0, 13, 0, 26, 2);
        Check.due("best 1: the lowest", x.best(1), 0);
        Check.due("best 1: that goes to 19", x.ofHop(0, 1), 19);
        Check.due("best 2: the safe one", x.best(2), 1);
        Check.due("worth 2: nothing is lost by it", x.worth(2), 1000);
        RingDraughts y = Check.board(1, 31, 2, 20, 0);
        Check.due("best 1 of side 1", y.best(1), 0);
        Check.due("best 2 of side 1: not to 26, where it is taken", y.ofHop(y.best(2), 1), 25);
    }

    private static void drawsDoNotMatter() {
        RingDraughts x = Check.board(0, 0, 1, 1, 3);
        for (int i = 0; i < 7; i++) x.play(i % 4 == 0 ? 0 : i % 4 == 1 ? 1 : i % 4 == 2 ? 13 : 14, i % 4 == 0 ? 13 : i % 4 == 1 ? 14 : i % 4 == 2 ? 0 : 1);
        Check.due("draws: one hop ahead of a draw", x.count(5), 2);
        Check.due("draws: rows go on behind it", x.rows(2) > 92 ? 1 : 0, 1);
        x.play(14, 1);
        Check.due("draws: drawn", x.count(0), 3);
        Check.due("draws: rows", x.rows(1), 0);
        Check.due("draws: worth", x.worth(0), NOT_POSSIBLE);
        Check.due("draws: best", x.best(1), NOT_POSSIBLE);
    }

    private static void nothingChanges() {
        RingDraughts x = Check.board(0, 0, 0, 6, 2, 19, 2, 3, 0);
        x.rows(3);
        x.worth(2);
        x.best(2);
        int[] due = {0, 0, 1, 0, -6, 1, 0, 600, 0, 6};
        for (int what = 0; what < due.length; what++) Check.due("what if: count " + what, x.count(what), due[what]);
        Check.due("what if: the pieces", x.square(0, 0) + x.square(6, 0) + x.square(19, 0) + x.square(3, 0), 4);
    }
}
