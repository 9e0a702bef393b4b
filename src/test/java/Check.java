/** Counts checks, and tells those that fail. */
final class Check {
    private static final int NONE = -6, CHANGES_KEPT = 6;

    static int passed = 0;
    static int failed = 0;
    private static String about = "";

    private Check() {
    }

    /** A call of an object, to be made where a test needs it. */
    interface Call {
        int on(RingDraughts x);
    }

    /** Tells of which sentence the checks behind this one are; it has to stand in that part of the document. */
    static void sentence(int promise, String words) {
        about = Document.title(promise) + ", \"" + words + "\": ";
        due("the words of the document", oneIf(Document.says(promise, words)), 1);
    }

    static void noSentence() {
        about = "";
    }

    static void due(String what, long got, long want) {
        if (got == want) {
            passed++;
        } else {
            failed++;
            System.out.println(about + what + " answered " + got + ", due is " + want);
        }
    }

    static void same(String what, String got, String want) {
        if (got.equals(want)) {
            passed++;
        } else {
            failed++;
            System.out.println(about + what + " gives" + System.lineSeparator() + "  " + got
                + ", due is" + System.lineSeparator() + "  " + want);
        }
    }

    /** What count(), side() or ofHop() answer for 0, 1, 2 .. */
    static void counts(String run, RingDraughts x, int... wants) {
        for (int what = 0; what < wants.length; what++) due(run + ": count " + what, x.count(what), wants[what]);
    }

    static void side(String run, RingDraughts x, int side, int... wants) {
        for (int what = 0; what < wants.length; what++) due(run + ": side " + side + " " + what, x.side(side, what), wants[what]);
    }

    static void ofHop(String run, RingDraughts x, int hop, int... wants) {
        for (int what = 0; what < wants.length; what++) due(run + ": ofHop " + hop + " " + what, x.ofHop(hop, what), wants[what]);
    }

    /** That a call records the state before it, and that undo() brings this back. */
    static void change(String run, RingDraughts x, Call call) {
        int kept = x.count(9);
        String before = State.ofGame(x);
        call.on(x);
        due(run + ": changes kept", x.count(9), Math.min(CHANGES_KEPT, kept + 1));
        due(run + ": undo", x.undo(), Math.min(CHANGES_KEPT, kept + 1) - 1);
        same(run + ": undone", State.ofGame(x), before);
    }

    /** Puts a text of any length on the pad, and gives what the last put() answered. */
    static int putText(RingDraughts x, String text) {
        int answer = NONE;
        for (int i = 0; i < text.length(); i += 8) {
            answer = x.put(characters(text.substring(i, Math.min(i + 8, text.length()))));
        }
        return answer;
    }

    static int playText(RingDraughts x, String text) {
        putText(x, text);
        return x.playAll();
    }

    /** A text of at most 8 characters as put() takes it. */
    static long characters(String text) {
        long number = 0;
        for (int i = 0; i < text.length(); i++) number = number << 8 | text.charAt(i);
        return number;
    }

    /** An empty board with pieces on it, told as square, piece, square, piece ..; the side is to move. */
    static RingDraughts board(int side, int... squaresAndPieces) {
        RingDraughts x = new RingDraughts();
        x.begin(true);
        for (int i = 0; i < squaresAndPieces.length; i += 2) x.set(squaresAndPieces[i], squaresAndPieces[i + 1]);
        x.turn(side);
        return x;
    }

    /** Whether a hop goes from one square to the other with these steps, taking this. */
    static boolean hasHop(RingDraughts x, int from, int to, int steps, int taken) {
        int number = x.count(2);
        for (int hop = 0; hop < number; hop++) {
            boolean isIt = x.ofHop(hop, 1) == to && x.ofHop(hop, 0) == from
                && x.ofHop(hop, 3) == steps && x.ofHop(hop, 4) == taken;
            if (isIt) return true;
        }
        return false;
    }

    static long oneIf(boolean isSo) {
        return isSo ? 1 : 0;
    }
}
