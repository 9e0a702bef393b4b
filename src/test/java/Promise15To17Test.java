import java.util.Random;

/** The promises 15 to 17, sentence by sentence: rows, worth, best. */
final class Promise15To17Test {
    private static final int BAD_VALUE = -2, NOT_POSSIBLE = -5;
    private static final int BOARDS = 150, MOST_HOPS = 50;

    private Promise15To17Test() {
    }

    static void run() {
        promise15RowsOfHops();
        promise15RowsOfJumps();
        promise15AtMost20000();
        promise15HopsOutOfRange();
        promise15GameHasEnded();
        promise15DrawsAndClocksDoNotMatter();
        promise16WorthOfNow();
        promise16EachSideDoesItsBest();
        promise16NoHopAheadOfThat();
        promise16Greatest();
        promise16HopsOutOfRange();
        promise16GameHasEnded();
        promise16DrawsAndClocksDoNotMatter();
        promise17BestHop();
        promise17TheLowestOfSeveral();
        promise17HopsOutOfRange();
        promise17GameHasEnded();
        promises15To17AgreeWithTheHopsThatAreMade();
    }

    private static void promise15RowsOfHops() {
        Check.sentence(15, "Tells how many rows of hops can be made from now on.");
        RingDraughts x = new RingDraughts();
        Check.due("at first, 1", x.rows(1), 12);
        Check.due("at first, 2", x.rows(2), 144);
        Check.sentence(15, "`hops`: 1 to 3, how long the rows are");
        RingDraughts two = Check.board(0, 0, 0, 25, 2);
        Check.due("two men, 1", two.rows(1), 2);
        Check.due("two men, 2", two.rows(2), 4);
        Check.due("two men, 3", two.rows(3), 8);
        RingDraughts alone = Check.board(0, 0, 0);
        Check.due("one man, 1", alone.rows(1), 2);
        Check.due("one man, 2: the other side has no piece", alone.rows(2), 0);
        Check.due("one man, 3", alone.rows(3), 0);
        RingDraughts shut = Check.board(0, 31, 2, 25, 0, 18, 0, 38, 0, 20, 0, 19, 0);
        int hops = shut.rows(1);
        Check.due("rows behind a hop that shuts the other side in are not counted", Check.oneIf(shut.rows(2) < 2 * hops), 1);
        RingDraughts crowned = Check.board(0, 42, 0, 3, 2);
        Check.due("a man that has become a king: 1", crowned.rows(1), 2);
        Check.due("a man that has become a king: 2", crowned.rows(2), 4);
    }

    private static void promise15RowsOfJumps() {
        Check.sentence(15, "Tells how many rows of hops can be made from now on.");
        RingDraughts x = Check.board(0, 0, 0, 6, 2, 19, 2, 3, 0, 9, 2, 44, 2);
        Check.due("one jump of either", x.rows(1), 2);
        x.play(0, 13);
        Check.due("only with the piece that jumps on", x.rows(1), 1);
        Check.due("then the other side", x.rows(2), x.rows(1) * behind(x, 0));
        RingDraughts same = Check.board(0, 0, 0, 6, 2, 19, 2, 3, 0);
        Check.due("two jumps of one side", same.rows(2), 1);
        Check.due("nobody is left behind them", same.rows(3), 0);
    }

    private static int behind(RingDraughts x, int hop) {
        x.hop(hop, 0);
        int number = x.count(2);
        x.undo();
        return number;
    }

    private static void promise15AtMost20000() {
        Check.sentence(15, "Returns how many, but at most 20000");
        Check.due("19999", Check.board(0, 27, 1, 42, 3, 8, 1, 12, 3, 37, 2).rows(3), 19999);
        Check.due("19999 of another board", Check.board(0, 18, 1, 21, 3, 35, 3, 15, 3, 5, 1).rows(3), 19999);
        Check.due("20000", Check.board(0, 36, 1, 25, 3, 45, 2, 1, 2).rows(3), 20000);
        Check.due("20000 of another board", Check.board(0, 32, 1, 47, 3, 14, 2, 23, 2).rows(3), 20000);
        Check.due("20001", Check.board(0, 4, 1, 1, 3, 5, 1, 22, 2, 36, 2).rows(3), 20000);
        Check.due("20001 of another board", Check.board(0, 29, 1, 47, 3, 9, 1, 35, 3, 14, 3).rows(3), 20000);
        Check.due("many more", Check.board(0, 0, 1, 1, 3).rows(3), 20000);
        Check.due("but not of two hops", Check.oneIf(Check.board(0, 0, 1, 1, 3).rows(2) < 92 * 92), 1);
    }

    private static void promise15HopsOutOfRange() {
        Check.sentence(15, "BAD_VALUE if hops is out of range (0 if the game has ended).");
        RingDraughts x = new RingDraughts();
        int[] wrong = {0, 4, -1, -6, 5, Integer.MIN_VALUE, Integer.MAX_VALUE};
        for (int hops : wrong) Check.due("rows " + hops, x.rows(hops), BAD_VALUE);
        Check.due("the least", x.rows(1), 12);
        Check.due("the greatest", Check.oneIf(x.rows(3) > 144), 1);
        x.giveUp();
        for (int hops : wrong) Check.due("ended: rows " + hops, x.rows(hops), BAD_VALUE);
    }

    private static void promise15GameHasEnded() {
        Check.sentence(15, "(0 if the game has ended)");
        for (int kind = 0; kind < Ended.KINDS; kind++) {
            RingDraughts x = Ended.game(kind);
            for (int hops = 1; hops <= 3; hops++) Check.due(hops + " behind " + Ended.name(kind), x.rows(hops), 0);
        }
        RingDraughts empty = new RingDraughts();
        empty.begin(true);
        Check.due("on an empty board", empty.rows(1), 0);
    }

    private static RingDraughts oneHopAheadOfADraw(boolean isByPosition) {
        if (!isByPosition) {
            RingDraughts quiet = Quiet.board();
            Quiet.hops(quiet, 0, 59);
            return quiet;
        }
        RingDraughts x = Check.board(0, 0, 1, 1, 3);
        int[] froms = {0, 1, 13, 14, 0, 1, 13};
        int[] tos = {13, 14, 0, 1, 13, 14, 0};
        for (int i = 0; i < 7; i++) x.play(froms[i], tos[i]);
        return x;
    }

    private static void promise15DrawsAndClocksDoNotMatter() {
        Check.sentence(0, "clocks and draws do not matter");
        for (int i = 0; i < 2; i++) {
            RingDraughts x = oneHopAheadOfADraw(i == 0);
            int rows = x.rows(2);
            x.set(47, -6);
            Check.due("rows ahead of a draw as in a new game, " + i, rows, x.rows(2));
        }
        RingDraughts late = new RingDraughts();
        late.hop(0, 600);
        late.hop(0, 600);
        int rows = late.rows(3);
        late.begin(false);
        late.hop(0, 0);
        late.hop(0, 0);
        Check.due("rows with empty clocks", rows, late.rows(3));
    }

    private static void promise16WorthOfNow() {
        Check.sentence(16, "the worth of the side that is to move now, less that of the other one");
        RingDraughts x = new RingDraughts();
        Check.due("at first", x.worth(0), 1000);
        RingDraughts y = Check.board(0, 4, 0, 1, 3, 44, 2, 46, 2);
        Check.due("of the side 0", y.worth(0), 1000 + 1 - 5);
        y.turn(1);
        Check.due("of the side 1", y.worth(0), 1000 + 5 - 1);
        Check.sentence(16, "Returns that number, and 1000");
        RingDraughts most = new RingDraughts();
        most.begin(true);
        for (int i = 0; i < 16; i++) most.set(i, 1);
        Check.due("the most", most.worth(0), 1048);
        Check.due("one hop of it", most.worth(1), 1048);
        Check.due("the other side has no hop", most.worth(2), 1148);
        RingDraughts least = new RingDraughts();
        least.begin(true);
        for (int i = 0; i < 16; i++) least.set(i, 3);
        least.set(40, 0);
        Check.due("the least", least.worth(0), 1000 + 1 - 48);
    }

    private static void promise16EachSideDoesItsBest() {
        Check.sentence(16, "behind some hops by which each side does the best that it can "
            + "(the side of now gets it as great as possible, the other one as little)");
        Check.due("takes a man", Check.board(0, 0, 0, 6, 2, 3, 0, 33, 2).worth(1), 1001);
        Check.due("takes a king sooner than a man", Check.board(0, 0, 0, 6, 2, 3, 0, 9, 3).worth(1), 1000 + 2 - 1);
        Check.due("becomes a king", Check.board(0, 42, 0, 27, 2).worth(1), 1002);
        Check.due("becomes a king by the side 1", Check.board(1, 0, 2, 20, 0).worth(1), 1002);
        Check.due("not yet with none", Check.board(0, 42, 0, 27, 2).worth(0), 1000);
        RingDraughts two = Check.board(0, 42, 0, 43, 0, 27, 2);
        Check.due("only one hop of two men", two.worth(1), 1000 + 4 - 1);
        Check.due("not two of one side", two.worth(2), 1000 + 4 - 1);
        Check.due("two jumps of one side", Check.board(0, 0, 0, 6, 2, 19, 2, 3, 0, 44, 2).worth(2), 1001);
        Check.due("the other side becomes a king", Check.board(0, 24, 0, 3, 2, 27, 2).worth(2), 997);
        Check.due("and takes", Check.board(0, 13, 0, 24, 2, 26, 2).worth(2), 998);
        Check.due("what it can't take elsewhere", Check.board(0, 13, 0, 26, 2).worth(2), 1000);
        RingDraughts forced = Check.board(0, 13, 0, 45, 0, 19, 2, 32, 2, 39, 2);
        Check.due("has to take", forced.worth(1), 1000);
        Check.due("though it is taken then", forced.worth(2), 999);
    }

    private static void promise16NoHopAheadOfThat() {
        Check.sentence(16, "If a side has no hop ahead of that, its worth is 100 less then, and the row ends.");
        RingDraughts taken = Check.board(0, 0, 0, 6, 2);
        Check.due("behind the last hop it does not matter", taken.worth(1), 1001);
        Check.due("ahead of it it does", taken.worth(2), 1101);
        RingDraughts down = Check.board(1, 13, 2, 6, 0);
        Check.due("of the side 1", down.worth(2), 1101);
        RingDraughts shut = Check.board(0, 31, 2, 25, 0, 18, 0, 38, 0, 20, 0, 19, 0);
        Check.due("shut in, behind the last hop", shut.worth(1), 1004);
        Check.due("shut in, ahead of it", shut.worth(2), 1104);
        Check.due("by the best hop", shut.ofHop(shut.best(2), 1), 26);
        RingDraughts alone = Check.board(0, 42, 0);
        Check.due("none from the beginning on", alone.worth(0), 1001);
        Check.due("none, and a king then", alone.worth(2), 1103);
        RingDraughts twice = Check.board(0, 0, 0, 6, 2, 19, 2, 3, 0);
        Check.due("two jumps, and nobody is left", twice.worth(2), 1002);
    }

    private static void promise16Greatest() {
        Check.sentence(16, "Tells the worth of a row of hops at its best");
        RingDraughts x = new RingDraughts();
        Check.due("one hop", x.worth(1), 1000);
        Check.due("two hops", x.worth(2), 1000);
        RingDraughts kings = Check.board(0, 0, 1, 20, 3);
        Check.due("takes a king", kings.worth(1), 1003);
        kings.turn(1);
        Check.due("the other one takes first", kings.worth(1), 1003);
        RingDraughts saved = Check.board(0, 0, 1, 1, 3);
        Check.due("a king that is not in danger", saved.worth(2), 1000);
    }

    private static void promise16HopsOutOfRange() {
        Check.sentence(16, "BAD_VALUE if hops is out of range");
        RingDraughts x = new RingDraughts();
        int[] wrong = {-1, 3, 4, -6, Integer.MIN_VALUE, Integer.MAX_VALUE};
        for (int hops : wrong) Check.due("worth " + hops, x.worth(hops), BAD_VALUE);
        Check.sentence(16, "`hops`: 0 to 2");
        for (int hops = 0; hops <= 2; hops++) Check.due("worth " + hops, x.worth(hops), 1000);
        x.giveUp();
        for (int hops : wrong) Check.due("ended: worth " + hops, x.worth(hops), BAD_VALUE);
    }

    private static void promise16GameHasEnded() {
        Check.sentence(16, "NOT_POSSIBLE if the game has ended.");
        for (int kind = 0; kind < Ended.KINDS; kind++) {
            RingDraughts x = Ended.game(kind);
            for (int hops = 0; hops <= 2; hops++) Check.due(hops + " behind " + Ended.name(kind), x.worth(hops), NOT_POSSIBLE);
        }
        RingDraughts empty = new RingDraughts();
        empty.begin(true);
        Check.due("on an empty board", empty.worth(0), NOT_POSSIBLE);
    }

    private static void promise16DrawsAndClocksDoNotMatter() {
        Check.sentence(0, "clocks and draws do not matter");
        for (int i = 0; i < 2; i++) {
            RingDraughts x = oneHopAheadOfADraw(i == 0);
            for (int hops = 0; hops <= 2; hops++) Check.due("worth " + hops + " ahead of a draw", x.worth(hops), 1000);
            Check.due("best 1 ahead of a draw", x.best(1), 0);
            int best = x.best(2);
            x.set(47, -6);
            Check.due("best 2 ahead of a draw as in a new game", best, x.best(2));
        }
        RingDraughts late = Check.board(0, 0, 0, 6, 2, 44, 2, 20, 0);
        late.clock(10);
        late.begin(false);
        late.hop(0, 10);
        late.hop(0, 10);
        Check.due("worth with empty clocks", late.worth(2), 1000);
    }

    private static void promise17BestHop() {
        Check.sentence(17, "Finds the best hop: the one behind which the number of worth(), for so many hops with it, is the greatest");
        RingDraughts crowned = Check.board(0, 24, 0, 42, 0, 9, 2);
        Check.due("a man becomes a king", crowned.ofHop(crowned.best(1), 0), 42);
        RingDraughts king = Check.board(0, 0, 0, 6, 2, 3, 0, 9, 3);
        Check.due("a king is taken", king.ofHop(king.best(1), 4), 9);
        RingDraughts ahead = Check.board(0, 13, 0, 26, 2);
        Check.due("one hop ahead: the lowest", ahead.ofHop(ahead.best(1), 1), 19);
        Check.due("two hops ahead: not where it is taken", ahead.ofHop(ahead.best(2), 1), 18);
        RingDraughts down = Check.board(1, 31, 2, 20, 0);
        Check.due("one hop ahead, of the side 1", down.ofHop(down.best(1), 1), 26);
        Check.due("two hops ahead, of the side 1", down.ofHop(down.best(2), 1), 25);
        RingDraughts on = Check.board(0, 0, 1, 6, 2, 14, 2, 44, 2);
        int best = on.best(2);
        Check.due("a jump behind which it jumps on", on.ofHop(best, 6), 1);
        Check.sentence(17, "Returns the hop");
        Check.due("its number", on.hop(best, 0), 0);
        Check.due("it is made", on.count(3), 1);
    }

    private static void promise17TheLowestOfSeveral() {
        Check.sentence(17, "of several the lowest");
        RingDraughts x = new RingDraughts();
        Check.due("all are the same, 1", x.best(1), 0);
        Check.due("all are the same, 2", x.best(2), 0);
        RingDraughts two = Check.board(0, 3, 0, 42, 0, 43, 0, 20, 3);
        int best = two.best(1);
        Check.due("the first of those that become a king", two.ofHop(best, 0), 42);
        Check.due("the first way of it", two.ofHop(best, 2), 0);
        Check.due("a single one", Check.board(0, 0, 0, 6, 2).best(1), 0);
        RingDraughts kings = Check.board(0, 0, 1, 1, 3);
        Check.due("92 that are the same", kings.best(1), 0);
    }

    private static void promise17HopsOutOfRange() {
        Check.sentence(17, "BAD_VALUE if hops is out of range");
        RingDraughts x = new RingDraughts();
        int[] wrong = {0, 3, -1, -6, 4, Integer.MIN_VALUE, Integer.MAX_VALUE};
        for (int hops : wrong) Check.due("best " + hops, x.best(hops), BAD_VALUE);
        Check.sentence(17, "`hops`: 1 or 2");
        Check.due("best 1", x.best(1), 0);
        Check.due("best 2", x.best(2), 0);
        x.giveUp();
        for (int hops : wrong) Check.due("ended: best " + hops, x.best(hops), BAD_VALUE);
    }

    private static void promise17GameHasEnded() {
        Check.sentence(17, "NOT_POSSIBLE if the game has ended.");
        for (int kind = 0; kind < Ended.KINDS; kind++) {
            RingDraughts x = Ended.game(kind);
            for (int hops = 1; hops <= 2; hops++) Check.due(hops + " behind " + Ended.name(kind), x.best(hops), NOT_POSSIBLE);
        }
        RingDraughts empty = new RingDraughts();
        empty.begin(true);
        Check.due("on an empty board", empty.best(1), NOT_POSSIBLE);
    }

    /** Makes every hop of boards at random, asks behind it, and undoes it. */
    private static void promises15To17AgreeWithTheHopsThatAreMade() {
        Check.sentence(17, "for so many hops with it");
        int boards = 0;
        for (int seed = 0; boards < BOARDS; seed++) {
            Random random = new Random(seed);
            RingDraughts x = new RingDraughts();
            x.begin(true);
            int pieces = 2 + random.nextInt(12);
            for (int i = 0; i < pieces; i++) x.set(random.nextInt(48), random.nextInt(4));
            x.turn(random.nextInt(2));
            if (x.count(0) != 0 || x.count(2) > MOST_HOPS) continue;
            boards++;
            agrees(x, "board " + seed);
        }
    }

    private static void agrees(RingDraughts x, String run) {
        int side = x.count(1);
        int hops = x.count(2);
        int[] oneHop = new int[hops];
        int[] twoHops = new int[hops];
        long rows2 = 0;
        long rows3 = 0;
        for (int hop = 0; hop < hops; hop++) {
            x.hop(hop, 0);
            rows2 += x.rows(1);
            rows3 += x.rows(2);
            oneHop[hop] = 1000 + x.side(side, 4) - x.side(1 - side, 4);
            int worth = x.worth(1);
            if (worth == NOT_POSSIBLE) twoHops[hop] = oneHop[hop] + 100;
            else twoHops[hop] = x.count(1) == side ? worth : 2000 - worth;
            x.undo();
        }
        Check.due(run + ": rows 1", x.rows(1), hops);
        Check.due(run + ": rows 2", x.rows(2), Math.min(20000, rows2));
        Check.due(run + ": rows 3", x.rows(3), Math.min(20000, rows3));
        Check.due(run + ": worth 1", x.worth(1), oneHop[firstGreatest(oneHop)]);
        Check.due(run + ": best 1", x.best(1), firstGreatest(oneHop));
        Check.due(run + ": worth 2", x.worth(2), twoHops[firstGreatest(twoHops)]);
        Check.due(run + ": best 2", x.best(2), firstGreatest(twoHops));
    }

    private static int firstGreatest(int[] numbers) {
        int first = 0;
        for (int i = 1; i < numbers.length; i++) if (numbers[i] > numbers[first]) first = i;
        return first;
    }
}
