import java.util.Arrays;

/**
 * Draughts on a torus, as ../shared/DOC.md promises it. The methods of the face look at their
 * arguments and answer; the classes inside hold the state and the rules.
 */
public final class RingDraughts {
    public static final int NO_SUCH = -1, BAD_VALUE = -2, BAD_TEXT = -3, TOO_MANY = -4, NOT_POSSIBLE = -5, NONE = -6;

    private static final int COLUMNS = 12, ROWS = 8, IN_ROW = 6, SQUARES = 48, WAYS = 4;
    /** A diagonal comes back to its first square after so many steps. */
    private static final int LAP = 24;
    private static final int MAN_OF_0 = 0, KING_OF_0 = 1, MAN_OF_1 = 2, KING_OF_1 = 3, PIECES = 4;
    private static final int MOST_OF_A_SIDE = 16;
    private static final int KING_WORTH = 3, STUCK_WORTH = 100;
    private static final int GOES_ON = 0, DRAWN = 3;
    private static final int LEAST_CLOCK = 10, MOST_SECONDS = 9999, FIRST_CLOCK = 600;
    private static final int DRAWING_TIMES = 3, DRAWING_QUIET = 60;
    private static final int MOST_ROWS = 20000, WORTH_ZERO = 1000;
    private static final int CHANGES_KEPT = 6, SLOTS = 2;

    private final Game game = new Game();
    private final History history = new History();
    private final Game[] slots = new Game[SLOTS];
    private final Pad pad = new Pad();
    /** The hops of now, and behind it the boards and hops that come after them. */
    private final Ply now = new Ply(new Ply(new Ply(null)));

    public RingDraughts() {
        game.start(false);
    }

    // ---- games

    public int clock(int seconds) {
        if (seconds < LEAST_CLOCK || seconds > MOST_SECONDS) return BAD_VALUE;
        history.keep(game);
        int previous = game.clockSetting;
        game.clockSetting = seconds;
        return previous;
    }

    public int begin(boolean isEmpty) {
        history.keep(game);
        game.start(isEmpty);
        return game.board.piecesOf(0) + game.board.piecesOf(1);
    }

    public int set(int square, int piece) {
        if (!isSquare(square)) return NO_SUCH;
        if (piece != NONE && !isPiece(piece)) return BAD_VALUE;
        int previous = game.board.pieceAt(square);
        if (isOneTooMany(piece, previous)) return TOO_MANY;
        history.keep(game);
        game.board.place(square, piece);
        game.startFromHere();
        return previous;
    }

    public int turn(int side) {
        if (!isSide(side)) return BAD_VALUE;
        history.keep(game);
        int previous = game.board.mover;
        game.board.mover = side;
        game.startFromHere();
        return previous;
    }

    // ---- hops

    public int hop(int hop, int seconds) {
        Hops hops = hopsOfNow();
        if (!hops.has(hop)) return NO_SUCH;
        if (seconds < 0 || seconds > MOST_SECONDS) return BAD_VALUE;
        history.keep(game);
        game.makeHop(hops, hop, seconds);
        return game.outcome;
    }

    public int play(int from, int to) {
        if (!isSquare(from) || !isSquare(to)) return NO_SUCH;
        Hops hops = hopsOfNow();
        int hop = hops.find(from, to);
        if (hop == NONE) return NOT_POSSIBLE;
        history.keep(game);
        game.makeHop(hops, hop, 0);
        return game.outcome;
    }

    public int playAll() {
        if (pad.findFault() != NONE) return BAD_TEXT;
        history.keep(game);
        int made = 0;
        int from = 0;
        int number = 0;
        boolean isJump = false;
        for (int i = 0; i <= pad.length; i++) {
            char sign = pad.signAt(i);
            if (sign == ',') {
                if (!makeToldHop(from, number, isJump)) break;
                made++;
                number = 0;
            } else if (sign == '-' || sign == 'x') {
                from = number;
                isJump = sign == 'x';
                number = 0;
            } else {
                number = number * 10 + (sign - '0');
            }
        }
        pad.length = 0;
        return made;
    }

    public int giveUp() {
        if (game.outcome != GOES_ON) return NOT_POSSIBLE;
        history.keep(game);
        game.outcome = wonBy(1 - game.board.mover);
        return game.outcome;
    }

    // ---- what there is; nothing changes

    public int square(int square, int what) {
        if (!isSquare(square)) return NO_SUCH;
        switch (what) {
            case 0: return game.board.pieceAt(square);
            case 1: return columnOf(square);
            case 2: return rowOf(square);
            case 3: return oneIf(isInDanger(square));
            case 4: return hopsOfNow().numberFrom(square);
            default: return BAD_VALUE;
        }
    }

    public int step(int square, int way) {
        if (!isSquare(square)) return NO_SUCH;
        if (way < 0 || way >= WAYS) return BAD_VALUE;
        return squareAfter(square, way, 1);
    }

    public int ofHop(int hop, int what) {
        Hops hops = hopsOfNow();
        if (!hops.has(hop)) return NO_SUCH;
        switch (what) {
            case 0: return hops.from(hop);
            case 1: return hops.to(hop);
            case 2: return hops.way(hop);
            case 3: return hops.steps(hop);
            case 4: return hops.taken(hop);
            case 5: return oneIf(isCrowned(game.board.pieceAt(hops.from(hop)), hops.from(hop), hops.steps(hop)));
            case 6: return oneIf(isJumpedOnBehind(hop));
            default: return BAD_VALUE;
        }
    }

    public int side(int side, int what) {
        if (!isSide(side)) return BAD_VALUE;
        switch (what) {
            case 0: return game.board.menOf(side);
            case 1: return game.board.kingsOf(side);
            case 2: return game.clocks[side];
            case 3: return game.lost[side];
            case 4: return game.board.worthOf(side);
            default: return BAD_VALUE;
        }
    }

    public int count(int what) {
        switch (what) {
            case 0: return game.outcome;
            case 1: return game.board.mover;
            case 2: return hopsOfNow().size;
            case 3: return game.hopsMade;
            case 4: return game.board.jumper;
            case 5: return game.timesOfNow();
            case 6: return game.quietHops;
            case 7: return game.clockSetting;
            case 8: return pad.length;
            case 9: return history.size;
            default: return BAD_VALUE;
        }
    }

    // ---- what if; nothing changes; clocks and draws do not matter

    public int rows(int hops) {
        if (hops < 1 || hops > 3) return BAD_VALUE;
        if (game.outcome != GOES_ON) return 0;
        now.board.copyFrom(game.board);
        return numberOfRows(now, hops, MOST_ROWS);
    }

    public int worth(int hops) {
        if (hops < 0 || hops > 2) return BAD_VALUE;
        if (game.outcome != GOES_ON) return NOT_POSSIBLE;
        now.board.copyFrom(game.board);
        return WORTH_ZERO + worthBehind(now, hops, now.board.mover);
    }

    public int best(int hops) {
        if (hops < 1 || hops > 2) return BAD_VALUE;
        if (game.outcome != GOES_ON) return NOT_POSSIBLE;
        int best = 0;
        int greatest = 0;
        int number = hopsOfNow().size;
        for (int hop = 0; hop < number; hop++) {
            now.tryHop(hop);
            int worth = worthBehind(now.next, hops - 1, now.board.mover);
            if (hop == 0 || worth > greatest) {
                best = hop;
                greatest = worth;
            }
        }
        return best;
    }

    // ---- texts

    public int put(long characters) {
        int number = Pad.numberOfSigns(characters);
        if (number == 0) return BAD_VALUE;
        if (pad.length + number > Pad.MOST) return TOO_MANY;
        pad.append(characters, number);
        return pad.length;
    }

    public int wipe() {
        int previous = pad.length;
        pad.length = 0;
        return previous;
    }

    public int fault() {
        return pad.findFault();
    }

    // ---- undo, saving

    public int undo() {
        if (history.size == 0) return NOT_POSSIBLE;
        history.takeBack(game);
        return history.size;
    }

    public int save(int slot) {
        if (slot < 0 || slot >= slots.length) return BAD_VALUE;
        Game saved = slots[slot];
        if (saved == null) {
            saved = new Game();
            slots[slot] = saved;
        }
        saved.copyFrom(game);
        return game.hopsMade;
    }

    public int restore(int slot) {
        if (slot < 0 || slot >= slots.length) return BAD_VALUE;
        Game saved = slots[slot];
        if (saved == null) return NOT_POSSIBLE;
        history.keep(game);
        game.copyFrom(saved);
        return game.hopsMade;
    }

    // ---- what the calls share

    /** The hops that can be made now, with the board of now at hand for tryHop(). */
    private Hops hopsOfNow() {
        now.board.copyFrom(game.board);
        now.hops.size = 0;
        if (game.outcome == GOES_ON) now.hops.list(now.board);
        return now.hops;
    }

    private boolean isOneTooMany(int piece, int previous) {
        if (piece == NONE || sideOf(piece) == sideOf(previous)) return false;
        return game.board.piecesOf(sideOf(piece)) >= MOST_OF_A_SIDE;
    }

    private boolean isInDanger(int square) {
        int side = sideOf(game.board.pieceAt(square));
        if (side == NONE) return false;
        now.hops.listJumps(game.board, 1 - side, NONE);
        return now.hops.takes(square);
    }

    private boolean isJumpedOnBehind(int hop) {
        now.tryHop(hop);
        return now.next != null && now.next.board.jumper != NONE;
    }

    private boolean makeToldHop(int from, int to, boolean isJump) {
        Hops hops = hopsOfNow();
        int hop = hops.find(from, to);
        if (hop == NONE || (hops.taken(hop) != NONE) != isJump) return false;
        game.makeHop(hops, hop, 0);
        return true;
    }

    /** How many rows of hops go on from the board of a ply, but at most some. */
    private static int numberOfRows(Ply ply, int hops, int most) {
        if (ply == null) return 0;
        ply.hops.list(ply.board);
        if (hops <= 1) return Math.min(ply.hops.size, most);
        int number = 0;
        for (int hop = 0; hop < ply.hops.size && number < most; hop++) {
            ply.tryHop(hop);
            number += numberOfRows(ply.next, hops - 1, most - number);
        }
        return number;
    }

    /** What a side is worth more than the other one at the end of the best row of hops from a ply. */
    private static int worthBehind(Ply ply, int hops, int side) {
        if (ply == null) return 0;
        Board board = ply.board;
        int worthNow = board.worthOf(side) - board.worthOf(1 - side);
        if (hops <= 0) return worthNow;
        boolean isOwnHop = board.mover == side;
        ply.hops.list(board);
        if (ply.hops.size == 0) return isOwnHop ? worthNow - STUCK_WORTH : worthNow + STUCK_WORTH;
        int best = 0;
        for (int hop = 0; hop < ply.hops.size; hop++) {
            ply.tryHop(hop);
            int worth = worthBehind(ply.next, hops - 1, side);
            if (hop == 0 || (isOwnHop ? worth > best : worth < best)) best = worth;
        }
        return best;
    }

    // ---- squares, pieces and sides

    private static boolean isSquare(int square) {
        return square >= 0 && square < SQUARES;
    }

    private static boolean isSide(int side) {
        return side == 0 || side == 1;
    }

    private static boolean isPiece(int piece) {
        return piece >= 0 && piece < PIECES;
    }

    private static boolean isKing(int piece) {
        return piece == KING_OF_0 || piece == KING_OF_1;
    }

    private static int sideOf(int piece) {
        if (piece == MAN_OF_0 || piece == KING_OF_0) return 0;
        return piece == MAN_OF_1 || piece == KING_OF_1 ? 1 : NONE;
    }

    private static int kingOf(int side) {
        return side == 0 ? KING_OF_0 : KING_OF_1;
    }

    private static int rowOf(int square) {
        return square / IN_ROW;
    }

    private static int columnOf(int square) {
        return square % IN_ROW * 2 + square / IN_ROW % 2;
    }

    /** The ways 0 and 1 go up, the ways 0 and 2 to the right. */
    private static int squareAfter(int square, int way, int steps) {
        int row = rowOf(square) + (way < 2 ? steps : -steps);
        int column = columnOf(square) + (way % 2 == 0 ? steps : -steps);
        return Math.floorMod(row, ROWS) * IN_ROW + Math.floorMod(column, COLUMNS) / 2;
    }

    private static boolean mayGo(int piece, int way) {
        if (piece == MAN_OF_0) return way < 2;
        return piece == MAN_OF_1 ? way >= 2 : piece != NONE;
    }

    /** Men only go ahead, so the number of steps tells whether one comes round to its first row. */
    private static boolean isCrowned(int piece, int square, int steps) {
        if (piece == MAN_OF_0) return rowOf(square) + steps >= ROWS;
        return piece == MAN_OF_1 && rowOf(square) - steps < 0;
    }

    private static int wonBy(int side) {
        return side == 0 ? 1 : 2;
    }

    private static int oneIf(boolean isSo) {
        return isSo ? 1 : 0;
    }

    /** A position: the pieces, the side to move, and the piece that has to jump on. */
    private static final class Board {
        final int[] pieces = new int[SQUARES];
        /** How many there are of each piece, so that worths need no look at the squares. */
        final int[] numbers = new int[PIECES];
        int mover = 0;
        int jumper = NONE;

        Board() {
            Arrays.fill(pieces, NONE);
        }

        void copyFrom(Board other) {
            System.arraycopy(other.pieces, 0, pieces, 0, SQUARES);
            System.arraycopy(other.numbers, 0, numbers, 0, PIECES);
            mover = other.mover;
            jumper = other.jumper;
        }

        void empty() {
            Arrays.fill(pieces, NONE);
            Arrays.fill(numbers, 0);
            mover = 0;
            jumper = NONE;
        }

        void fillRow(int row, int piece) {
            for (int i = 0; i < IN_ROW; i++) place(row * IN_ROW + i, piece);
        }

        int pieceAt(int square) {
            return square >= 0 && square < pieces.length ? pieces[square] : NONE;
        }

        void place(int square, int piece) {
            if (square < 0 || square >= pieces.length) return;
            addToNumber(pieces[square], -1);
            addToNumber(piece, 1);
            pieces[square] = piece;
        }

        private void addToNumber(int piece, int more) {
            if (piece >= 0 && piece < numbers.length) numbers[piece] += more;
        }

        private int numberOf(int piece) {
            return piece >= 0 && piece < numbers.length ? numbers[piece] : 0;
        }

        int menOf(int side) {
            return numberOf(side == 0 ? MAN_OF_0 : MAN_OF_1);
        }

        int kingsOf(int side) {
            return numberOf(kingOf(side));
        }

        int piecesOf(int side) {
            return menOf(side) + kingsOf(side);
        }

        int worthOf(int side) {
            return menOf(side) + KING_WORTH * kingsOf(side);
        }

        /** How many steps it is to the piece that is jumped over this way; 0 if there is none. */
        int stepsToPrey(int square, int way) {
            int piece = pieceAt(square);
            if (!mayGo(piece, way)) return 0;
            // its own square ends every lap, so prey is no farther than two steps ahead of that
            int farthest = isKing(piece) ? LAP - 2 : 1;
            int steps = 1;
            int met = squareAfter(square, way, 1);
            while (steps < farthest && pieceAt(met) == NONE) {
                met = squareAfter(met, way, 1);
                steps++;
            }
            boolean isPrey = sideOf(pieceAt(met)) == 1 - sideOf(piece);
            return isPrey && pieceAt(squareAfter(met, way, 1)) == NONE ? steps : 0;
        }

        boolean canJump(int square) {
            for (int way = 0; way < WAYS; way++) {
                if (stepsToPrey(square, way) > 0) return true;
            }
            return false;
        }

        boolean hasHop() {
            for (int square = 0; square < SQUARES; square++) {
                int piece = pieceAt(square);
                if (sideOf(piece) != mover) continue;
                for (int way = 0; way < WAYS; way++) {
                    boolean canStep = mayGo(piece, way) && pieceAt(squareAfter(square, way, 1)) == NONE;
                    if (canStep || stepsToPrey(square, way) > 0) return true;
                }
            }
            return false;
        }

        void make(Hops hops, int hop) {
            int from = hops.from(hop);
            int to = hops.to(hop);
            int taken = hops.taken(hop);
            int piece = pieceAt(from);
            boolean isCrowned = isCrowned(piece, from, hops.steps(hop));
            place(from, NONE);
            place(taken, NONE);
            place(to, isCrowned ? kingOf(mover) : piece);
            jumper = taken != NONE && canJump(to) ? to : NONE;
            if (jumper == NONE) mover = 1 - mover;
        }

        /** A third of the position, in bits: two positions are the same if all thirds are. */
        long third(int part) {
            int first = part * (SQUARES / 3);
            long bits = part == 0 ? mover : part == 1 ? jumper - NONE : 0;
            for (int square = first; square < first + SQUARES / 3; square++) {
                int piece = pieceAt(square);
                bits = bits << 3 | (piece == NONE ? PIECES : piece);
            }
            return bits;
        }
    }

    /** The hops of a board, in their order. */
    private static final class Hops {
        /**
         * A free square lies on two diagonals, and on each it is reached from the two ends of its
         * gap alone, by one hop from each: so there are never more hops than this.
         */
        static final int MOST = 4 * SQUARES;
        final int[] froms = new int[MOST];
        final int[] tos = new int[MOST];
        final int[] ways = new int[MOST];
        final int[] lengths = new int[MOST];
        final int[] takens = new int[MOST];
        int size = 0;

        boolean has(int hop) {
            return hop >= 0 && hop < size && hop < MOST;
        }

        int from(int hop) {
            return has(hop) ? froms[hop] : NONE;
        }

        int to(int hop) {
            return has(hop) ? tos[hop] : NONE;
        }

        int way(int hop) {
            return has(hop) ? ways[hop] : NONE;
        }

        int steps(int hop) {
            return has(hop) ? lengths[hop] : 0;
        }

        int taken(int hop) {
            return has(hop) ? takens[hop] : NONE;
        }

        int find(int from, int to) {
            for (int hop = 0; hop < size; hop++) {
                if (from(hop) == from && to(hop) == to) return hop;
            }
            return NONE;
        }

        int numberFrom(int square) {
            int number = 0;
            for (int hop = 0; hop < size; hop++) {
                if (from(hop) == square) number++;
            }
            return number;
        }

        boolean takes(int square) {
            for (int hop = 0; hop < size; hop++) {
                if (taken(hop) == square) return true;
            }
            return false;
        }

        /** Lists what the side to move can do: jumps, and other hops only if there are none. */
        void list(Board board) {
            listJumps(board, board.mover, board.jumper);
            if (size == 0) listPlainHops(board);
        }

        /** Lists the jumps of a side: of its jumper, or of all its pieces if that is NONE. */
        void listJumps(Board board, int side, int jumper) {
            size = 0;
            for (int square = 0; square < SQUARES; square++) {
                int piece = board.pieceAt(square);
                if (sideOf(piece) != side || (jumper != NONE && jumper != square)) continue;
                int farthest = isKing(piece) ? LAP - 1 : 2;
                for (int way = 0; way < WAYS; way++) {
                    int steps = board.stepsToPrey(square, way);
                    if (steps > 0) addLandings(board, square, way, steps, farthest);
                }
            }
        }

        private void listPlainHops(Board board) {
            size = 0;
            for (int square = 0; square < SQUARES; square++) {
                int piece = board.pieceAt(square);
                if (sideOf(piece) != board.mover) continue;
                int farthest = isKing(piece) ? LAP - 1 : 1;
                for (int way = 0; way < WAYS; way++) {
                    if (mayGo(piece, way)) addLandings(board, square, way, 0, farthest);
                }
            }
        }

        /** Adds the hops to the free squares behind some steps; if these are not 0, they lead to prey. */
        private void addLandings(Board board, int square, int way, int stepsBefore, int farthest) {
            int before = squareAfter(square, way, stepsBefore);
            int taken = stepsBefore > 0 ? before : NONE;
            int to = squareAfter(before, way, 1);
            for (int steps = stepsBefore + 1; steps <= farthest && board.pieceAt(to) == NONE; steps++) {
                add(square, to, way, steps, taken);
                to = squareAfter(to, way, 1);
            }
        }

        private void add(int from, int to, int way, int steps, int taken) {
            if (size < 0 || size >= MOST) return;
            froms[size] = from;
            tos[size] = to;
            ways[size] = way;
            lengths[size] = steps;
            takens[size] = taken;
            size++;
        }
    }

    /** A board of a row of hops, and what can be made of it. */
    private static final class Ply {
        final Board board = new Board();
        final Hops hops = new Hops();
        final Ply next;

        Ply(Ply next) {
            this.next = next;
        }

        /** Puts the board as it is behind a hop of the list into the next ply. */
        void tryHop(int hop) {
            if (next == null || !hops.has(hop)) return;
            next.board.copyFrom(board);
            next.board.make(hops, hop);
        }
    }

    /** All that undo(), save() and restore() bring back. */
    private static final class Game {
        static final int THIRDS = 3;
        final Board board = new Board();
        final int[] clocks = new int[2];
        final int[] lost = new int[2];
        /**
         * The positions that can still come again: men only go ahead, and what is taken stays away,
         * so no position comes again behind another hop than a king's without taking.
         */
        final long[] positions = new long[THIRDS * (DRAWING_QUIET + 1)];
        int positionsKept = 0;
        int clockSetting = FIRST_CLOCK;
        int hopsMade = 0;
        int quietHops = 0;
        int outcome = GOES_ON;

        void copyFrom(Game other) {
            board.copyFrom(other.board);
            System.arraycopy(other.clocks, 0, clocks, 0, 2);
            System.arraycopy(other.lost, 0, lost, 0, 2);
            System.arraycopy(other.positions, 0, positions, 0, THIRDS * (DRAWING_QUIET + 1));
            positionsKept = other.positionsKept;
            clockSetting = other.clockSetting;
            hopsMade = other.hopsMade;
            quietHops = other.quietHops;
            outcome = other.outcome;
        }

        void start(boolean isEmpty) {
            board.empty();
            if (!isEmpty) {
                board.fillRow(1, MAN_OF_0);
                board.fillRow(2, MAN_OF_0);
                board.fillRow(5, MAN_OF_1);
                board.fillRow(6, MAN_OF_1);
            }
            Arrays.fill(clocks, clockSetting);
            startFromHere();
        }

        /** Begins a game with the pieces, the side to move and the clocks that there are. */
        void startFromHere() {
            board.jumper = NONE;
            Arrays.fill(lost, 0);
            hopsMade = 0;
            quietHops = 0;
            positionsKept = 0;
            keepPosition();
            judge();
        }

        void makeHop(Hops hops, int hop, int seconds) {
            int side = board.mover;
            if (!isSide(side)) return;
            if (seconds > clocks[side]) {
                clocks[side] = 0;
                outcome = wonBy(1 - side);
                return;
            }
            clocks[side] -= seconds;
            boolean isTaking = hops.taken(hop) != NONE;
            boolean isQuiet = isKing(board.pieceAt(hops.from(hop))) && !isTaking;
            if (isTaking) lost[1 - side]++;
            board.make(hops, hop);
            hopsMade++;
            quietHops = isQuiet ? quietHops + 1 : 0;
            if (!isQuiet) positionsKept = 0;
            keepPosition();
            judge();
        }

        private void judge() {
            if (!board.hasHop()) {
                outcome = wonBy(1 - board.mover);
            } else if (timesOfNow() >= DRAWING_TIMES || quietHops >= DRAWING_QUIET) {
                outcome = DRAWN;
            } else {
                outcome = GOES_ON;
            }
        }

        private void keepPosition() {
            int first = positionsKept * THIRDS;
            if (first < 0 || first + THIRDS > positions.length) return;
            for (int part = 0; part < THIRDS; part++) positions[first + part] = board.third(part);
            positionsKept++;
        }

        /** How often the position of now, the last one that was kept, has come. */
        int timesOfNow() {
            int times = 0;
            for (int i = 0; i < positionsKept; i++) {
                if (isSamePosition(i, positionsKept - 1)) times++;
            }
            return times;
        }

        private boolean isSamePosition(int one, int other) {
            int least = Math.min(one, other) * THIRDS;
            int greatest = Math.max(one, other) * THIRDS;
            if (least < 0 || greatest + THIRDS > positions.length) return false;
            for (int part = 0; part < THIRDS; part++) {
                if (positions[least + part] != positions[greatest + part]) return false;
            }
            return true;
        }
    }

    /** The states before the latest changes, the oldest first. */
    private static final class History {
        final Game[] states = new Game[CHANGES_KEPT];
        int size = 0;

        void keep(Game game) {
            if (size >= CHANGES_KEPT) dropOldest();
            if (size < 0 || size >= CHANGES_KEPT) return;
            Game state = states[size];
            if (state == null) {
                state = new Game();
                states[size] = state;
            }
            state.copyFrom(game);
            size++;
        }

        /** The dropped state goes behind the others, where the next one is written over it. */
        private void dropOldest() {
            Game oldest = states[0];
            for (int i = 1; i < CHANGES_KEPT; i++) states[i - 1] = states[i];
            states[CHANGES_KEPT - 1] = oldest;
            size = CHANGES_KEPT - 1;
        }

        void takeBack(Game game) {
            if (size < 1 || size > CHANGES_KEPT) return;
            Game state = states[size - 1];
            if (state == null) return;
            game.copyFrom(state);
            size--;
        }
    }

    /** The text of hops. */
    private static final class Pad {
        static final int MOST = 60;
        /** What is read: ahead of a square, within it; first that of the start, then that of the end. */
        static final int AHEAD_OF_START = 0, IN_START = 1, AHEAD_OF_END = 2, IN_END = 3;
        final char[] signs = new char[MOST];
        int length = 0;

        /** How many characters a number gives, 0 if it is not one that gives any. */
        static int numberOfSigns(long characters) {
            int number = 0;
            long rest = characters;
            while (number < 8 && rest != 0) {
                long code = rest & 255;
                if (code < 33 || code > 126) return 0;
                rest >>>= 8;
                number++;
            }
            return number;
        }

        void append(long characters, int number) {
            for (int i = number - 1; i >= 0; i--) {
                if (length < 0 || length >= MOST) return;
                signs[length] = (char) (characters >>> 8 * i & 255);
                length++;
            }
        }

        /** Behind the text as a comma, so that each hop has one behind it. */
        char signAt(int index) {
            return index >= 0 && index < length && index < MOST ? signs[index] : ',';
        }

        int findFault() {
            int place = AHEAD_OF_START;
            int number = 0;
            for (int i = 0; i < length; i++) {
                char sign = signAt(i);
                if (sign >= '0' && sign <= '9') {
                    boolean isFirst = place == AHEAD_OF_START || place == AHEAD_OF_END;
                    if (!isFirst && number == 0) return i;
                    number = (isFirst ? 0 : number * 10) + (sign - '0');
                    if (!isSquare(number)) return i;
                    if (isFirst) place++;
                } else if (place == IN_START && (sign == '-' || sign == 'x')) {
                    place = AHEAD_OF_END;
                } else if (place == IN_END && sign == ',') {
                    place = AHEAD_OF_START;
                } else {
                    return i;
                }
            }
            return place == IN_END ? NONE : length;
        }
    }
}
