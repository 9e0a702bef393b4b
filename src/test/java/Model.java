import java.util.ArrayList;
import java.util.HashMap;
import java.util.List;
import java.util.Map;
import java.util.TreeMap;
import java.util.regex.Matcher;
import java.util.regex.Pattern;

/**
 * The document once more, written another way (whole states that are copied, texts of positions,
 * patterns for the pad), so that both can be compared call by call.
 */
final class Model {
    private static final int NO_SUCH = -1, BAD_VALUE = -2, BAD_TEXT = -3, TOO_MANY = -4, NOT_POSSIBLE = -5, NONE = -6;

    private record Hop(int from, int to, int way, int steps, int taken) {
    }

    /** Pieces by square, the side to move, and the square of the piece that has to jump on. */
    private record Position(TreeMap<Integer, Integer> pieces, int mover, int jumper) {
        String text() {
            return pieces + "/" + mover + "/" + jumper;
        }

        List<Hop> hops() {
            List<Hop> jumps = new ArrayList<>();
            List<Hop> others = new ArrayList<>();
            for (int from : pieces.keySet()) {
                if (pieces.get(from) / 2 != mover || (jumper != NONE && jumper != from)) continue;
                for (int way = 0; way < 4; way++) addHops(from, way, jumps, others);
            }
            return jumps.isEmpty() && jumper == NONE ? others : jumps;
        }

        private void addHops(int from, int way, List<Hop> jumps, List<Hop> others) {
            if (pieces.get(from) % 2 == 1) {
                addKingsHops(from, way, jumps, others);
                return;
            }
            if ((way < 2) != (pieces.get(from) == 0)) return;
            int near = after(from, way, 1);
            int far = after(from, way, 2);
            if (!pieces.containsKey(near)) others.add(new Hop(from, near, way, 1, NONE));
            else if (isEnemy(near) && !pieces.containsKey(far)) jumps.add(new Hop(from, far, way, 2, near));
        }

        private void addKingsHops(int from, int way, List<Hop> jumps, List<Hop> others) {
            int taken = NONE;
            for (int steps = 1; steps < 24; steps++) {
                int to = after(from, way, steps);
                if (!pieces.containsKey(to)) {
                    (taken == NONE ? others : jumps).add(new Hop(from, to, way, steps, taken));
                } else if (taken == NONE && isEnemy(to)) {
                    taken = to;
                } else {
                    return;
                }
            }
        }

        private boolean isEnemy(int square) {
            return pieces.get(square) / 2 != mover;
        }

        boolean isCrowning(Hop hop) {
            int piece = pieces.get(hop.from);
            if (piece % 2 == 1) return false;
            int from = hop.from / 6;
            int to = hop.to / 6;
            return piece == 0 ? to < from : to > from;
        }

        Position behind(Hop hop) {
            TreeMap<Integer, Integer> later = new TreeMap<>(pieces);
            int piece = later.remove(hop.from);
            later.remove(hop.taken);
            later.put(hop.to, isCrowning(hop) ? piece + 1 : piece);
            if (hop.taken != NONE) {
                Position same = new Position(later, mover, hop.to);
                if (!same.hops().isEmpty()) return same;
            }
            return new Position(later, 1 - mover, NONE);
        }

        int number(int piece) {
            int number = 0;
            for (int there : pieces.values()) if (there == piece) number++;
            return number;
        }

        int worth(int side) {
            return number(2 * side) + 3 * number(2 * side + 1);
        }

        long rows(int hops) {
            List<Hop> list = hops();
            if (hops == 1) return list.size();
            long rows = 0;
            for (Hop hop : list) {
                rows += behind(hop).rows(hops - 1);
                if (rows > 20000) return rows;
            }
            return rows;
        }

        int worthAhead(int side, int hops) {
            int worth = worth(side) - worth(1 - side);
            if (hops == 0) return worth;
            List<Hop> list = hops();
            if (list.isEmpty()) return mover == side ? worth - 100 : worth + 100;
            int best = mover == side ? Integer.MIN_VALUE : Integer.MAX_VALUE;
            for (Hop hop : list) {
                int there = behind(hop).worthAhead(side, hops - 1);
                best = mover == side ? Math.max(best, there) : Math.min(best, there);
            }
            return best;
        }
    }

    private record State(Position position, Map<String, Integer> come, int setting, int clock0, int clock1,
            int lost0, int lost1, int made, int quiet, int outcome) {
        int clock(int side) {
            return side == 0 ? clock0 : clock1;
        }

        State ended(int outcome) {
            return new State(position, come, setting, clock0, clock1, lost0, lost1, made, quiet, outcome);
        }

        State withSetting(int seconds) {
            return new State(position, come, seconds, clock0, clock1, lost0, lost1, made, quiet, outcome);
        }

        State withClock(int side, int seconds) {
            return new State(position, come, setting, side == 0 ? seconds : clock0, side == 1 ? seconds : clock1,
                lost0, lost1, made, quiet, outcome);
        }

        State newGame(TreeMap<Integer, Integer> pieces, int mover) {
            Position first = new Position(pieces, mover, NONE);
            int loss = mover == 0 ? 2 : 1;
            int outcome = first.hops().isEmpty() ? loss : 0;
            return new State(first, Map.of(first.text(), 1), setting, clock0, clock1, 0, 0, 0, 0, outcome);
        }

        List<Hop> hops() {
            return outcome == 0 ? position.hops() : List.of();
        }

        State made(Hop hop) {
            boolean isQuiet = position.pieces.get(hop.from) % 2 == 1 && hop.taken == NONE;
            Position later = position.behind(hop);
            Map<String, Integer> comeLater = new HashMap<>(come);
            int times = comeLater.merge(later.text(), 1, Integer::sum);
            int quietLater = isQuiet ? quiet + 1 : 0;
            int outcomeLater = times == 3 || quietLater == 60 ? 3 : 0;
            if (later.hops().isEmpty()) outcomeLater = later.mover == 0 ? 2 : 1;
            int took = hop.taken == NONE ? 0 : 1;
            return new State(later, comeLater, setting, clock0, clock1,
                lost0 + (position.mover == 1 ? took : 0), lost1 + (position.mover == 0 ? took : 0),
                made + 1, quietLater, outcomeLater);
        }
    }

    private State state;
    private final List<State> history = new ArrayList<>();
    private final State[] slots = new State[2];
    private String pad = "";

    Model() {
        state = new State(null, null, 600, 0, 0, 0, 0, 0, 0, 0);
        begin(false);
        history.clear();
    }

    /** Another one with the same state of the game. */
    Model twin() {
        Model twin = new Model();
        twin.state = state;
        return twin;
    }

    private static int after(int square, int way, int steps) {
        int y = square / 6;
        int x = square % 6 * 2 + y % 2;
        for (int i = 0; i < steps; i++) {
            x = (x + (way == 0 || way == 2 ? 1 : 11)) % 12;
            y = (y + (way == 0 || way == 1 ? 1 : 7)) % 8;
        }
        return y * 6 + x / 2;
    }

    private void change(State later) {
        history.add(state);
        if (history.size() > 6) history.remove(0);
        state = later;
    }

    int clock(int seconds) {
        if (seconds < 10 || seconds > 9999) return BAD_VALUE;
        int previous = state.setting;
        change(state.withSetting(seconds));
        return previous;
    }

    int begin(boolean isEmpty) {
        TreeMap<Integer, Integer> pieces = new TreeMap<>();
        for (int i = 6; i < 18 && !isEmpty; i++) pieces.put(i, 0);
        for (int i = 30; i < 42 && !isEmpty; i++) pieces.put(i, 2);
        change(state.newGame(pieces, 0).withClock(0, state.setting).withClock(1, state.setting));
        return pieces.size();
    }

    int set(int square, int piece) {
        if (square < 0 || square > 47) return NO_SUCH;
        if (piece != NONE && (piece < 0 || piece > 3)) return BAD_VALUE;
        TreeMap<Integer, Integer> pieces = new TreeMap<>(state.position.pieces);
        Integer previous = pieces.remove(square);
        if (piece != NONE) {
            pieces.put(square, piece);
            if (pieces.values().stream().filter(p -> p / 2 == piece / 2).count() > 16) return TOO_MANY;
        }
        change(state.newGame(pieces, state.position.mover));
        return previous == null ? NONE : previous;
    }

    int turn(int side) {
        if (side < 0 || side > 1) return BAD_VALUE;
        int previous = state.position.mover;
        change(state.newGame(state.position.pieces, side));
        return previous;
    }

    int hop(int hop, int seconds) {
        List<Hop> hops = state.hops();
        if (hop < 0 || hop >= hops.size()) return NO_SUCH;
        if (seconds < 0 || seconds > 9999) return BAD_VALUE;
        int side = state.position.mover;
        int left = state.clock(side) - seconds;
        if (left < 0) change(state.withClock(side, 0).ended(side == 0 ? 2 : 1));
        else change(state.made(hops.get(hop)).withClock(side, left));
        return state.outcome;
    }

    private Hop find(int from, int to) {
        for (Hop hop : state.hops()) if (hop.from == from && hop.to == to) return hop;
        return null;
    }

    int play(int from, int to) {
        if (from < 0 || from > 47 || to < 0 || to > 47) return NO_SUCH;
        Hop hop = find(from, to);
        if (hop == null) return NOT_POSSIBLE;
        change(state.made(hop));
        return state.outcome;
    }

    int playAll() {
        if (fault() != NONE) return BAD_TEXT;
        change(state);
        int made = 0;
        for (String told : pad.split(",")) {
            String[] squares = told.split("[-x]");
            Hop hop = find(Integer.parseInt(squares[0]), Integer.parseInt(squares[1]));
            if (hop == null || (hop.taken != NONE) != told.contains("x")) break;
            state = state.made(hop);
            made++;
        }
        pad = "";
        return made;
    }

    int giveUp() {
        if (state.outcome != 0) return NOT_POSSIBLE;
        change(state.ended(state.position.mover == 0 ? 2 : 1));
        return state.outcome;
    }

    int square(int square, int what) {
        if (square < 0 || square > 47) return NO_SUCH;
        if (what < 0 || what > 4) return BAD_VALUE;
        int y = square / 6;
        if (what == 1) return square % 6 * 2 + y % 2;
        if (what == 2) return y;
        int piece = state.position.pieces.getOrDefault(square, NONE);
        if (what == 0) return piece;
        if (what == 4) return (int) state.hops().stream().filter(h -> h.from == square).count();
        if (piece == NONE) return 0;
        Position others = new Position(state.position.pieces, 1 - piece / 2, NONE);
        return others.hops().stream().anyMatch(h -> h.taken == square) ? 1 : 0;
    }

    int step(int square, int way) {
        if (square < 0 || square > 47) return NO_SUCH;
        return way < 0 || way > 3 ? BAD_VALUE : after(square, way, 1);
    }

    int ofHop(int hop, int what) {
        List<Hop> hops = state.hops();
        if (hop < 0 || hop >= hops.size()) return NO_SUCH;
        if (what < 0 || what > 6) return BAD_VALUE;
        Hop it = hops.get(hop);
        int jumpsOn = state.position.behind(it).jumper == NONE ? 0 : 1;
        int[] all = {it.from, it.to, it.way, it.steps, it.taken, state.position.isCrowning(it) ? 1 : 0, jumpsOn};
        return all[what];
    }

    int side(int side, int what) {
        if (side < 0 || side > 1 || what < 0 || what > 4) return BAD_VALUE;
        Position position = state.position;
        int lost = side == 0 ? state.lost0 : state.lost1;
        int[] all = {position.number(2 * side), position.number(2 * side + 1), state.clock(side), lost, position.worth(side)};
        return all[what];
    }

    int count(int what) {
        if (what < 0 || what > 9) return BAD_VALUE;
        int[] all = {state.outcome, state.position.mover, state.hops().size(), state.made, state.position.jumper,
            state.come.get(state.position.text()), state.quiet, state.setting, pad.length(), history.size()};
        return all[what];
    }

    int rows(int hops) {
        if (hops < 1 || hops > 3) return BAD_VALUE;
        return state.outcome != 0 ? 0 : (int) Math.min(20000, state.position.rows(hops));
    }

    int worth(int hops) {
        if (hops < 0 || hops > 2) return BAD_VALUE;
        if (state.outcome != 0) return NOT_POSSIBLE;
        return 1000 + state.position.worthAhead(state.position.mover, hops);
    }

    int best(int hops) {
        if (hops < 1 || hops > 2) return BAD_VALUE;
        if (state.outcome != 0) return NOT_POSSIBLE;
        List<Hop> list = state.hops();
        int[] worths = new int[list.size()];
        for (int i = 0; i < worths.length; i++) {
            worths[i] = state.position.behind(list.get(i)).worthAhead(state.position.mover, hops - 1);
        }
        int best = 0;
        for (int i = 0; i < worths.length; i++) if (worths[i] > worths[best]) best = i;
        return best;
    }

    int put(long characters) {
        StringBuilder text = new StringBuilder();
        boolean isOver = false;
        for (int i = 0; i < 8; i++) {
            int code = (int) (characters >> 8 * i) & 0xff;
            if (code == 0) isOver = true;
            else if (isOver || code < 33 || code > 126) return BAD_VALUE;
            else text.insert(0, (char) code);
        }
        if (text.length() == 0) return BAD_VALUE;
        if (pad.length() + text.length() > 60) return TOO_MANY;
        pad += text;
        return pad.length();
    }

    int wipe() {
        int previous = pad.length();
        pad = "";
        return previous;
    }

    private static final String SQUARE = "(?:[0-9]|[1-3][0-9]|4[0-7])";
    private static final String HOP = SQUARE + "[-x]" + SQUARE;
    private static final Pattern TEXT = Pattern.compile(HOP + "(?:," + HOP + ")*");

    /** The first character behind which no text can go on to be a whole one. */
    static int faultOf(String text) {
        if (TEXT.matcher(text).matches()) return NONE;
        for (int i = 1; i <= text.length(); i++) {
            Matcher matcher = TEXT.matcher(text.substring(0, i));
            if (!matcher.matches() && !matcher.hitEnd()) return i - 1;
        }
        return text.length();
    }

    int fault() {
        return faultOf(pad);
    }

    int undo() {
        if (history.isEmpty()) return NOT_POSSIBLE;
        state = history.remove(history.size() - 1);
        return history.size();
    }

    int save(int slot) {
        if (slot < 0 || slot > 1) return BAD_VALUE;
        slots[slot] = state;
        return state.made;
    }

    int restore(int slot) {
        if (slot < 0 || slot > 1) return BAD_VALUE;
        if (slots[slot] == null) return NOT_POSSIBLE;
        change(slots[slot]);
        return state.made;
    }
}
