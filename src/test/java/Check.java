/** Counts checks, and tells those that fail. */
final class Check {
    static int passed = 0;
    static int failed = 0;

    private Check() {
    }

    static void due(String what, long got, long want) {
        if (got == want) {
            passed++;
        } else {
            failed++;
            System.out.println(what + " answered " + got + ", due is " + want);
        }
    }

    /** Puts a text of any length on the pad, and gives what the last put() answered. */
    static int putText(RingDraughts x, String text) {
        int answer = RingDraughts.NONE;
        for (int i = 0; i < text.length(); i += 8) {
            answer = x.put(characters(text.substring(i, Math.min(i + 8, text.length()))));
        }
        return answer;
    }

    /** A text of at most 8 characters as put() takes it. */
    static long characters(String text) {
        long number = 0;
        for (int i = 0; i < text.length(); i++) number = number << 8 | text.charAt(i);
        return number;
    }

    /** An empty board with pieces on it, told as square, piece, square, piece ..; the side is to move. */
    static RingDraughts board(int side, int... squaresAndPieces) {
        RingDraughts x = new RingDraughts();
        x.begin(true);
        for (int i = 0; i < squaresAndPieces.length; i += 2) x.set(squaresAndPieces[i], squaresAndPieces[i + 1]);
        x.turn(side);
        return x;
    }

    /** Whether a hop goes from one square to the other with these steps, taking this. */
    static boolean hasHop(RingDraughts x, int from, int to, int steps, int taken) {
        for (int hop = 0; hop < x.count(2); hop++) {
            boolean isIt = x.ofHop(hop, 0) == from && x.ofHop(hop, 1) == to
                && x.ofHop(hop, 3) == steps && x.ofHop(hop, 4) == taken;
            if (isIt) return true;
        }
        return false;
    }

    static long oneIf(boolean isSo) {
        return isSo ? 1 : 0;
    }
}
