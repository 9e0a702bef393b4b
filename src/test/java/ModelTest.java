import java.util.Random;

/** Compares the class with the model over many games that are played at random, the same ones each time. */
final class ModelTest {
    private static final int GAMES = 2500, LONG_GAMES = 60;
    /** What an object answers behind so many calls is free; so many at most are made before the next look at that. */
    private static final int CALLS = 512, CALLS_OF_A_STEP = 40, QUESTIONS = 12;

    private final Random random;
    private final RingDraughts x = new RingDraughts();
    private final Model model = new Model();
    private final String name;

    private int calls = 0;
    private int lateRepetitions = 0;

    private ModelTest(int game) {
        random = new Random(game);
        name = "game " + game;
    }

    static void run() {
        for (int game = 0; game < GAMES; game++) {
            ModelTest test = new ModelTest(game);
            int before = Check.failed;
            test.setUp(game % 5);
            while (test.calls + CALLS_OF_A_STEP <= CALLS && Check.failed == before) {
                test.call();
                for (int i = 0; i < QUESTIONS; i++) test.ask();
            }
            Check.due("calls of the game " + game + " within what is promised", Check.oneIf(test.calls <= CALLS), 1);
        }
        int lateRepetitions = 0;
        for (int game = 0; game < LONG_GAMES; game++) {
            ModelTest test = new ModelTest(1000 + game);
            test.playLong();
            lateRepetitions += test.lateRepetitions;
        }
        Check.due("positions come again late in games, too", Check.oneIf(lateRepetitions > 20), 1);
    }

    /** A game of hops alone, with few jumps; late in it kings go back to where they have been. */
    private void playLong() {
        while (calls + 3 <= CALLS && model.count(0) == 0) {
            int hop = chooseLongHop();
            due("long hop " + hop, x.hop(hop, 1), model.hop(hop, 1));
            int what = oneIn(8) ? random.nextInt(10) : 6;
            if (oneIn(4)) due("long count " + what, x.count(what), model.count(what));
            if (model.count(5) == 1 || model.count(3) <= 70) continue;
            due("long count 5", x.count(5), model.count(5));
            lateRepetitions++;
        }
    }

    private int chooseLongHop() {
        int number = model.count(2);
        int first = random.nextInt(number);
        int safe = first;
        for (int i = 0; i < number; i++) {
            int hop = (first + i) % number;
            Model twin = model.twin();
            twin.hop(hop, 0);
            boolean isSafe = twin.count(0) == 0 && twin.ofHop(0, 4) == RingDraughts.NONE;
            if (isSafe && safe == first) safe = hop;
            if (isSafe && twin.count(3) > 70 && twin.count(5) > 1) return hop;
        }
        return safe;
    }

    private void due(String call, long got, long want) {
        calls++;
        Check.due(name + ": " + call, got, want);
    }

    private boolean oneIn(int number) {
        return random.nextInt(number) == 0;
    }

    /** A number of a range, or at times one beyond its edges. */
    private int about(int least, int greatest) {
        if (oneIn(25)) return least - 1 - random.nextInt(3);
        if (oneIn(25)) return greatest + 1 + random.nextInt(3);
        return least + random.nextInt(greatest - least + 1);
    }

    private void setUp(int kind) {
        if (kind == 0) return;
        due("begin true", x.begin(true), model.begin(true));
        int number = kind == 1 ? 3 + random.nextInt(3) : kind == 2 ? 8 + random.nextInt(8) : 20 + random.nextInt(20);
        for (int i = 0; i < number; i++) {
            int piece = kind == 1 || kind == 3 ? 1 + 2 * random.nextInt(2) : random.nextInt(4);
            setPiece(random.nextInt(48), piece);
        }
        int side = random.nextInt(2);
        due("turn " + side, x.turn(side), model.turn(side));
    }

    private void setPiece(int square, int piece) {
        due("set " + square + " " + piece, x.set(square, piece), model.set(square, piece));
    }

    private void call() {
        int kind = random.nextInt(100);
        if (kind < 55) callHop();
        else if (kind < 62) callPlay();
        else if (kind < 70) callPlayAll();
        else if (kind < 75) setPiece(about(0, 47), oneIn(3) ? RingDraughts.NONE : about(0, 3));
        else if (kind < 77) callTurn();
        else if (kind < 84) callUndo();
        else if (kind < 90) callSlots();
        else if (kind < 98) callOutlook();
        else callRare();
    }

    private void callHop() {
        int hop = about(0, Math.max(0, model.count(2) - 1));
        int seconds = oneIn(40) ? about(0, 9999) : oneIn(3) ? about(0, 40) : 0;
        due("hop " + hop + " " + seconds, x.hop(hop, seconds), model.hop(hop, seconds));
    }

    private void callPlay() {
        int hop = random.nextInt(Math.max(1, model.count(2)));
        int from = oneIn(5) ? about(0, 47) : model.ofHop(hop, 0);
        int to = oneIn(5) ? about(0, 47) : model.ofHop(hop, 1);
        due("play " + from + " " + to, x.play(from, to), model.play(from, to));
    }

    private void callTurn() {
        int side = about(0, 1);
        due("turn " + side, x.turn(side), model.turn(side));
    }

    private void callPlayAll() {
        if (oneIn(3)) due("wipe", x.wipe(), model.wipe());
        String text = textOfHops();
        for (int i = 0; i < text.length(); i += 8) {
            long part = Check.characters(text.substring(i, Math.min(text.length(), i + 8)));
            due("put " + text, x.put(part), model.put(part));
        }
        due("fault " + text, x.fault(), model.fault());
        due("playAll " + text, x.playAll(), model.playAll());
    }

    private String textOfHops() {
        Model twin = model.twin();
        StringBuilder text = new StringBuilder();
        int number = 1 + random.nextInt(5);
        for (int i = 0; i < number && twin.count(2) > 0; i++) {
            int hop = random.nextInt(twin.count(2));
            boolean isJump = (twin.ofHop(hop, 4) != RingDraughts.NONE) != oneIn(20);
            if (i > 0) text.append(',');
            text.append(twin.ofHop(hop, 0)).append(isJump ? 'x' : '-').append(twin.ofHop(hop, 1));
            twin.hop(hop, 0);
        }
        if (oneIn(6)) text.insert(random.nextInt(text.length() + 1), (char) (33 + random.nextInt(94)));
        if (oneIn(6)) text.insert(random.nextInt(text.length() + 1), "0123456789-x,".charAt(random.nextInt(13)));
        return text.toString();
    }

    private void callUndo() {
        int number = oneIn(4) ? 7 : 1;
        for (int i = 0; i < number; i++) due("undo", x.undo(), model.undo());
    }

    private void callSlots() {
        int slot = about(0, 1);
        if (oneIn(2)) due("save " + slot, x.save(slot), model.save(slot));
        else due("restore " + slot, x.restore(slot), model.restore(slot));
    }

    private void callOutlook() {
        int hops = about(1, 2);
        due("worth " + hops, x.worth(hops), model.worth(hops));
        due("best " + hops, x.best(hops), model.best(hops));
        due("rows " + hops, x.rows(hops), model.rows(hops));
        if (model.count(2) < 30) due("rows 3", x.rows(3), model.rows(3));
    }

    private void callRare() {
        int seconds = about(10, 9999);
        boolean isEmpty = oneIn(2);
        if (oneIn(3)) due("giveUp", x.giveUp(), model.giveUp());
        else if (oneIn(2)) due("clock " + seconds, x.clock(seconds), model.clock(seconds));
        else due("begin " + isEmpty, x.begin(isEmpty), model.begin(isEmpty));
    }

    private void ask() {
        int number = random.nextInt(10);
        int square = random.nextInt(48);
        int kind = random.nextInt(10);
        if (kind < 3) due("count " + number, x.count(number), model.count(number));
        else if (kind < 5) due("side " + number, x.side(number / 5, number % 5), model.side(number / 5, number % 5));
        else if (kind < 7) due("square " + square + " " + number / 2, x.square(square, number / 2), model.square(square, number / 2));
        else if (kind < 9) askOfHop(random.nextInt(model.count(2) + 1), random.nextInt(7));
        else due("worth 0", x.worth(0), model.worth(0));
    }

    private void askOfHop(int hop, int what) {
        due("ofHop " + hop + " " + what, x.ofHop(hop, what), model.ofHop(hop, what));
    }
}
