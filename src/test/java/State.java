/** All that can be asked of an object, in texts that can be compared. */
final class State {
    private State() {
    }

    /** What undo(), save() and restore() bring back. Some 90 calls. */
    static String ofGame(RingDraughts x) {
        StringBuilder text = new StringBuilder(numbers(x)).append("pieces ");
        for (int square = 0; square < 48; square++) {
            int piece = x.square(square, 0);
            if (piece != RingDraughts.NONE) text.append(square).append(':').append(piece).append(' ');
        }
        text.append("hops ");
        for (int hop = 0; hop < 10 && x.ofHop(hop, 0) >= 0; hop++) text.append(x.ofHop(hop, 1)).append(' ');
        return text.toString();
    }

    /** The numbers of the game alone. */
    static String numbers(RingDraughts x) {
        StringBuilder text = new StringBuilder("counts ");
        for (int what = 0; what < 8; what++) text.append(x.count(what)).append(' ');
        text.append("sides ");
        for (int i = 0; i < 10; i++) text.append(x.side(i / 5, i % 5)).append(' ');
        return text.append("rows ").append(x.rows(1)).append(' ').toString();
    }

    /** The game, the pad, the history and the slots; all is undone afterwards. Some 270 calls. */
    static String ofAll(RingDraughts x) {
        StringBuilder text = new StringBuilder(ofGame(x));
        text.append("pad ").append(x.count(8)).append(' ').append(x.fault());
        for (int left = x.count(9); left >= 0; left--) text.append(" undo ").append(x.undo()).append(' ').append(numbers(x));
        for (int slot = 0; slot < 2; slot++) text.append(" slot ").append(x.restore(slot)).append(' ').append(numbers(x));
        return text.toString();
    }
}
