/** The promises 21 to 23, sentence by sentence: undo, save, restore. */
final class Promise21To23Test {
    private static final int BAD_VALUE = -2, NOT_POSSIBLE = -5, NONE = -6;

    private Promise21To23Test() {
    }

    static void run() {
        promise21EverythingIsAsBefore();
        promise21NotThePad();
        promise21NotTheSlots();
        promise21AtMostSix();
        promise21EachChange();
        promise21ErrorsRecordNothing();
        promise21HopsOfATextRecordNothing();
        promise21HowManyThen();
        promise21None();
        promise21PositionsAreUndoneToo();
        promise22SavesEverything();
        promise22SavesEveryPosition();
        promise22NotThePadAndTheHistory();
        promise22Overwrites();
        promise22HowManyHops();
        promise22NoSuchSlot();
        promise23Restores();
        promise23SlotKeepsIt();
        promise23IsAChange();
        promise23HowManyHops();
        promise23NoSuchSlot();
        promise23NothingSaved();
    }

    /** Amidst jumps, with a setting, both clocks used, and pieces lost by both sides. */
    private static RingDraughts amidst() {
        RingDraughts x = Check.board(0, 20, 0, 27, 2, 0, 0, 6, 2, 19, 2, 40, 2, 46, 2, 47, 0);
        x.hop(1, 11);
        x.hop(0, 22);
        x.hop(0, 33);
        x.clock(77);
        Check.counts("amidst", x, 0, 0, 1, 3, 13, 1, 0, 77);
        Check.side("amidst", x, 0, 2, 0, 556, 1);
        Check.side("amidst", x, 1, 3, 0, 578, 2);
        return x;
    }

    private static final Check.Call[] CHANGES = {
        x -> x.clock(10), x -> x.begin(false), x -> x.begin(true), x -> x.set(47, 2), x -> x.set(44, NONE), x -> x.turn(0),
        x -> x.turn(1), x -> x.hop(0, 3), x -> x.hop(0, 9999), x -> x.play(x.ofHop(0, 0), x.ofHop(0, 1)),
        x -> Check.playText(x, "0-0"), x -> x.giveUp(), x -> x.restore(0),
    };

    private static void promise21EverythingIsAsBefore() {
        Check.sentence(21, "Undoes the latest change: everything except the pad, the slots and the history is as it was before it.");
        for (int i = 0; i < CHANGES.length; i++) {
            RingDraughts x = amidst();
            x.save(0);
            Check.change("the change " + i + " amidst a game", x, CHANGES[i]);
            RingDraughts ended = Ended.game(i % Ended.KINDS);
            ended.save(0);
            if (i < 7 || i == 10 || i == 12) Check.change("the change " + i + " behind " + Ended.name(i % Ended.KINDS), ended, CHANGES[i]);
        }
        RingDraughts many = amidst();
        many.save(0);
        int[] order = {7, 0, 3, 11, 1, 12};
        String[] before = new String[6];
        for (int i = 0; i < 6; i++) {
            before[i] = State.numbers(many);
            CHANGES[order[i]].on(many);
        }
        for (int i = 5; i >= 0; i--) {
            Check.due("undo of the change " + order[i], many.undo(), i);
            Check.same("undone", State.numbers(many), before[i]);
        }
    }

    private static void promise21NotThePad() {
        Check.sentence(21, "everything except the pad");
        RingDraughts x = new RingDraughts();
        Check.playText(x, "12-18");
        Check.putText(x, "30-24");
        x.undo();
        Check.due("what was put since then", x.count(8), 5);
        Check.due("its fault", x.fault(), NONE);
        x.turn(1);
        x.wipe();
        x.undo();
        Check.due("what was wiped since then", x.count(8), 0);
        Check.playText(x, "12-18");
        x.undo();
        Check.due("what playAll emptied", x.count(8), 0);
    }

    private static void promise21NotTheSlots() {
        Check.sentence(21, "everything except the pad, the slots and the history");
        RingDraughts x = new RingDraughts();
        x.hop(0, 0);
        x.save(0);
        x.hop(0, 0);
        x.save(1);
        x.undo();
        x.undo();
        Check.due("nothing was made", x.count(3), 0);
        Check.due("the slot 1", x.restore(1), 2);
        Check.due("the slot 0", x.restore(0), 1);
        Check.due("the history", x.undo(), 1);
        Check.due("undone", x.count(3), 2);
        Check.due("the history then", x.undo(), 0);
        Check.due("undone again", x.count(3), 0);
    }

    private static void promise21AtMostSix() {
        Check.sentence(21, "A history of at most 6 states is kept");
        RingDraughts x = new RingDraughts();
        for (int seconds = 11; seconds <= 16; seconds++) x.clock(seconds);
        Check.due("six", x.count(9), 6);
        Check.sentence(21, "when one more is recorded, the oldest one is dropped");
        x.clock(17);
        Check.due("seven", x.count(9), 6);
        for (int left = 5; left >= 0; left--) {
            Check.due("undo", x.undo(), left);
            Check.due("CLOCK", x.count(7), 11 + left);
        }
        Check.due("the first one is dropped", x.undo(), NOT_POSSIBLE);
        Check.due("CLOCK then", x.count(7), 11);
        for (int seconds = 21; seconds <= 50; seconds++) x.clock(seconds);
        for (int left = 5; left >= 0; left--) {
            Check.due("undo of many", x.undo(), left);
            Check.due("CLOCK of many", x.count(7), 44 + left);
        }
        Check.due("all others are dropped", x.undo(), NOT_POSSIBLE);
        x.clock(99);
        Check.due("one behind that", x.count(9), 1);
        Check.due("undo of one", x.undo(), 0);
        Check.due("CLOCK behind that", x.count(7), 44);
        for (int seconds = 60; seconds < 66; seconds++) x.clock(seconds);
        for (int i = 0; i < 3; i++) x.undo();
        for (int seconds = 70; seconds < 75; seconds++) x.clock(seconds);
        int[] wants = {73, 72, 71, 70, 62, 61};
        for (int i = 0; i < 6; i++) {
            Check.due("undo of old and new ones", x.undo(), 5 - i);
            Check.due("CLOCK of old and new ones", x.count(7), wants[i]);
        }
    }

    private static void promise21EachChange() {
        Check.sentence(21, "each method that is a change, and returns no error, records the state before it (also if nothing is different then)");
        Check.change("clock", new RingDraughts(), x -> x.clock(600));
        Check.change("begin", new RingDraughts(), x -> x.begin(false));
        Check.change("set", new RingDraughts(), x -> x.set(0, NONE));
        Check.change("turn", new RingDraughts(), x -> x.turn(0));
        Check.change("hop", new RingDraughts(), x -> x.hop(0, 0));
        Check.change("play", new RingDraughts(), x -> x.play(12, 18));
        Check.change("playAll", new RingDraughts(), x -> Check.playText(x, "0-0"));
        Check.change("giveUp", new RingDraughts(), x -> x.giveUp());
        RingDraughts saved = new RingDraughts();
        saved.save(0);
        Check.change("restore", saved, x -> x.restore(0));
    }

    private static void promise21ErrorsRecordNothing() {
        Check.sentence(21, "and returns no error");
        RingDraughts x = new RingDraughts();
        x.clock(9);
        x.clock(10000);
        x.set(48, 0);
        x.set(0, 4);
        x.turn(2);
        x.hop(12, 0);
        x.hop(0, 10000);
        x.play(48, 0);
        x.play(0, 6);
        x.playAll();
        x.restore(0);
        x.restore(2);
        x.undo();
        Check.due("errors", x.count(9), 0);
        x.put('1');
        x.wipe();
        x.fault();
        x.save(0);
        x.rows(2);
        x.worth(1);
        x.best(1);
        x.square(0, 0);
        x.step(0, 0);
        x.ofHop(0, 0);
        x.side(0, 0);
        Check.due("what is no change", x.count(9), 0);
        for (int i = 0; i < 4; i++) x.set(i, 0);
        x.set(4, 0);
        Check.due("one too many", x.count(9), 4);
        x.giveUp();
        x.giveUp();
        Check.due("giving up again", x.count(9), 5);
    }

    private static void promise21HopsOfATextRecordNothing() {
        Check.sentence(21, "A hop of a text records nothing by itself.");
        RingDraughts x = new RingDraughts();
        x.clock(700);
        Check.due("three hops", Check.playText(x, "12-18,30-24,13-19"), 3);
        Check.due("one change", x.count(9), 2);
        Check.due("undo", x.undo(), 1);
        Check.due("no hop is left", x.count(3), 0);
        Check.due("CLOCK is left", x.count(7), 700);
    }

    private static void promise21HowManyThen() {
        Check.sentence(21, "Returns how many changes can be undone then");
        RingDraughts x = new RingDraughts();
        x.turn(1);
        Check.due("one", x.undo(), 0);
        x.turn(1);
        x.turn(0);
        Check.due("two", x.undo(), 1);
        x.turn(0);
        Check.due("another one in its place", x.undo(), 1);
        Check.due("undo is no change", x.count(9), 1);
    }

    private static void promise21None() {
        Check.sentence(21, "NOT_POSSIBLE if there is none.");
        RingDraughts x = new RingDraughts();
        Check.due("at first", x.undo(), NOT_POSSIBLE);
        x.save(0);
        x.put('1');
        Check.due("behind what is no change", x.undo(), NOT_POSSIBLE);
        x.turn(1);
        x.undo();
        Check.due("behind undo", x.undo(), NOT_POSSIBLE);
        Check.due("and again", x.undo(), NOT_POSSIBLE);
        Check.due("the side", x.count(1), 0);
    }

    private static void promise21PositionsAreUndoneToo() {
        Check.sentence(21, "everything except the pad, the slots and the history is as it was before it");
        RingDraughts x = Ended.game(3);
        x.undo();
        x.undo();
        Check.due("another hop", x.play(13, 6), 0);
        x.undo();
        Check.due("the hop as before", x.play(13, 0), 0);
        Check.due("come", x.count(5), 2);
        Check.due("drawn again", x.play(14, 1), 3);
        RingDraughts jump = Check.board(0, 0, 0, 6, 2, 19, 2, 44, 2);
        jump.hop(0, 9);
        jump.hop(0, 9);
        jump.undo();
        Check.counts("has to jump on", jump, 0, 0, 1, 1, 13, 1, 0);
        Check.side("lost", jump, 1, 2, 0, 600, 1, 2);
        Check.due("the clock", jump.side(0, 2), 591);
        RingDraughts crowned = Check.board(0, 42, 0, 20, 2);
        crowned.play(42, 0);
        crowned.undo();
        Check.due("a man again", crowned.square(42, 0), 0);
        Check.side("a man again", crowned, 0, 1, 0);
    }

    private static void promise22SavesEverything() {
        Check.sentence(22, "Saves everything except the pad, the history and the slots in a slot");
        for (int slot = 0; slot < 2; slot++) {
            RingDraughts x = amidst();
            String saved = State.ofGame(x);
            x.save(slot);
            Check.same("as it was", State.ofGame(x), saved);
            x.clock(500);
            x.begin(true);
            x.restore(slot);
            Check.same("restored", State.ofGame(x), saved);
        }
        for (int kind = 0; kind < Ended.KINDS; kind++) {
            RingDraughts x = Ended.game(kind);
            String saved = State.ofGame(x);
            x.save(0);
            x.begin(false);
            x.restore(0);
            Check.same("restored, " + Ended.name(kind), State.ofGame(x), saved);
        }
    }

    private static void promise22SavesEveryPosition() {
        Check.sentence(22, "Saves everything");
        int[] saved = {20, 33, 46, 59, 60};
        for (int hops : saved) {
            RingDraughts same = Quiet.board();
            Quiet.hops(same, 0, hops);
            RingDraughts x = Quiet.board();
            Quiet.hops(x, 0, hops);
            x.save(1);
            Quiet.elsewhere(x, 1 + hops % 5);
            x.restore(1);
            for (int hop = hops; hop < 60; hop++) {
                Check.due("come, saved behind " + hops + ", ahead of " + hop, x.count(5), same.count(5));
                Quiet.hops(same, hop, hop + 1);
                Quiet.hops(x, hop, hop + 1);
            }
            Check.due("come, saved behind " + hops, x.count(5), 2);
        }
        RingDraughts back = Quiet.board();
        Quiet.hops(back, 0, 41);
        back.save(0);
        Quiet.elsewhere(back, 1);
        back.restore(0);
        back.play(Quiet.kingOf1(20), Quiet.kingOf1(21));
        back.play(Quiet.kingOf0(21), Quiet.kingOf0(20));
        Check.due("come, by a new way", back.count(5), 1);
        back.play(Quiet.kingOf1(21), Quiet.kingOf1(20));
        Check.due("come, as behind 40", back.count(5), 2);
    }

    private static void promise22NotThePadAndTheHistory() {
        Check.sentence(22, "except the pad, the history and the slots");
        RingDraughts x = new RingDraughts();
        Check.putText(x, "12-");
        x.turn(1);
        x.save(0);
        Check.due("no change", x.count(9), 1);
        Check.due("the pad", x.count(8), 3);
        x.wipe();
        x.turn(0);
        x.restore(0);
        Check.due("the pad then", x.count(8), 0);
        Check.due("the history then", x.count(9), 3);
        RingDraughts slots = new RingDraughts();
        slots.save(0);
        slots.hop(0, 0);
        slots.save(1);
        slots.restore(0);
        Check.due("the other slot", slots.restore(1), 1);
    }

    private static void promise22Overwrites() {
        Check.sentence(22, "and overwrites what was saved there");
        RingDraughts x = new RingDraughts();
        for (int hops = 0; hops < 5; hops++) {
            Check.due("saved", x.save(1), hops);
            x.hop(0, 1);
        }
        Check.due("what was saved last", x.restore(1), 4);
        Check.due("its clock", x.side(0, 2), 598);
        Check.due("nothing in the other one", x.restore(0), NOT_POSSIBLE);
    }

    private static void promise22HowManyHops() {
        Check.sentence(22, "Returns how many hops were made in the game");
        RingDraughts x = new RingDraughts();
        Check.due("none", x.save(0), 0);
        x.hop(0, 0);
        Check.due("one", x.save(0), 1);
        Check.playText(x, "35-29,13-19");
        Check.due("three", x.save(1), 3);
        x.turn(0);
        Check.due("none in a new game", x.save(1), 0);
        x.hop(0, 9999);
        Check.due("one that was not made", x.save(1), 0);
    }

    private static void promise22NoSuchSlot() {
        Check.sentence(22, "BAD_VALUE if there is no such slot.");
        RingDraughts x = new RingDraughts();
        int[] wrong = {-1, 2, 3, NONE, Integer.MIN_VALUE, Integer.MAX_VALUE};
        for (int slot : wrong) Check.due("save " + slot, x.save(slot), BAD_VALUE);
        Check.due("nothing is saved in 0", x.restore(0), NOT_POSSIBLE);
        Check.due("nothing is saved in 1", x.restore(1), NOT_POSSIBLE);
        Check.sentence(22, "`slot`: 0 or 1");
        Check.due("0", x.save(0), 0);
        Check.due("1", x.save(1), 0);
    }

    private static void promise23Restores() {
        Check.sentence(23, "Restores what was saved last in a slot");
        RingDraughts x = amidst();
        String first = State.ofGame(x);
        x.save(0);
        x.hop(0, 1);
        String second = State.ofGame(x);
        x.save(1);
        x.begin(true);
        x.restore(0);
        Check.same("the slot 0", State.ofGame(x), first);
        x.restore(1);
        Check.same("the slot 1", State.ofGame(x), second);
        RingDraughts draw = Check.board(0, 0, 1, 1, 3);
        int[] froms = {0, 1, 13, 14, 0, 1, 13};
        int[] tos = {13, 14, 0, 1, 13, 14, 0};
        for (int i = 0; i < 7; i++) draw.play(froms[i], tos[i]);
        draw.save(0);
        draw.begin(true);
        draw.restore(0);
        Check.due("the quiet hops", draw.count(6), 7);
        Check.due("the positions that came", draw.play(14, 1), 3);
    }

    private static void promise23SlotKeepsIt() {
        Check.sentence(23, "which keeps it");
        RingDraughts x = new RingDraughts();
        x.hop(0, 0);
        x.save(0);
        for (int i = 0; i < 8; i++) {
            x.hop(0, 1);
            x.set(0, 1);
            x.clock(10 + i);
            Check.due("restore " + i, x.restore(0), 1);
            Check.due("the square", x.square(0, 0), NONE);
            Check.due("CLOCK", x.count(7), 600);
            Check.due("the clock", x.side(1, 2), 600);
        }
    }

    private static void promise23IsAChange() {
        Check.sentence(23, "This is a change.");
        RingDraughts same = new RingDraughts();
        same.save(1);
        Check.change("the same state", same, x -> x.restore(1));
        RingDraughts other = amidst();
        other.save(1);
        other.begin(false);
        Check.change("another state", other, x -> x.restore(1));
        RingDraughts undone = new RingDraughts();
        undone.save(0);
        undone.hop(0, 0);
        undone.restore(0);
        undone.undo();
        Check.due("undone", undone.count(3), 1);
        Check.due("the slot keeps it", undone.restore(0), 0);
    }

    private static void promise23HowManyHops() {
        Check.sentence(23, "Returns how many hops were made in the game then");
        RingDraughts x = new RingDraughts();
        x.save(0);
        x.hop(0, 0);
        x.hop(0, 0);
        x.save(1);
        x.hop(0, 0);
        Check.due("none", x.restore(0), 0);
        Check.due("two", x.restore(1), 2);
        Check.due("as count(3)", x.count(3), 2);
    }

    private static void promise23NoSuchSlot() {
        Check.sentence(23, "BAD_VALUE if there is no such slot");
        RingDraughts x = new RingDraughts();
        int[] wrong = {-1, 2, 3, NONE, Integer.MIN_VALUE, Integer.MAX_VALUE};
        for (int slot : wrong) Check.due("nothing saved: restore " + slot, x.restore(slot), BAD_VALUE);
        x.save(0);
        x.save(1);
        for (int slot : wrong) Check.due("both saved: restore " + slot, x.restore(slot), BAD_VALUE);
        Check.due("no change", x.count(9), 0);
        Check.sentence(23, "`slot`: 0 or 1");
        Check.due("0", x.restore(0), 0);
        Check.due("1", x.restore(1), 0);
    }

    private static void promise23NothingSaved() {
        Check.sentence(23, "NOT_POSSIBLE if nothing was saved in it.");
        RingDraughts x = new RingDraughts();
        Check.due("0 at first", x.restore(0), NOT_POSSIBLE);
        Check.due("1 at first", x.restore(1), NOT_POSSIBLE);
        x.hop(0, 0);
        x.save(1);
        Check.due("the other one", x.restore(0), NOT_POSSIBLE);
        Check.due("no change", x.count(9), 1);
        x.undo();
        Check.due("undo does not take a slot away", x.restore(1), 1);
        Check.due("nor does begin", x.begin(true), 0);
        Check.due("it is there", x.restore(1), 1);
    }
}
