import java.util.Random;

/** Any arguments in any state: no call throws, and what answers an error changes nothing. */
final class RobustTest {
    private static final int OBJECTS = 400, CALLS = 400, ENDLESS_CALLS = 20000;
    private static final int[] EDGES = {
        Integer.MIN_VALUE, Integer.MIN_VALUE + 1, -100, -7, -6, -5, -2, -1, 0, 1, 2, 3, 4, 5, 6, 7, 9, 10, 11, 12, 16,
        23, 24, 47, 48, 60, 99, 1000, 9999, 10000, 1 << 16, Integer.MAX_VALUE - 1, Integer.MAX_VALUE,
    };

    private RobustTest() {
    }

    static void run() {
        for (int seed = 0; seed < OBJECTS; seed++) drive(new Random(seed), seed);
        driveOn(new Random(OBJECTS));
        crowd();
    }

    private static int number(Random random) {
        return random.nextInt(3) > 0 ? random.nextInt(12) : EDGES[random.nextInt(EDGES.length)];
    }

    private static int square(Random random) {
        return random.nextInt(6) > 0 ? random.nextInt(48) : number(random);
    }

    private static long characters(Random random) {
        if (random.nextInt(4) == 0) return random.nextLong();
        StringBuilder text = new StringBuilder();
        int length = random.nextInt(9);
        for (int i = 0; i < length; i++) text.append("01234-x,".charAt(random.nextInt(8)));
        return Check.characters(text.toString());
    }

    /** The same calls to two objects, but that one gets no calls that the other one has answered by an error. */
    private static void drive(Random random, int seed) {
        RingDraughts x = new RingDraughts();
        RingDraughts withoutErrors = new RingDraughts();
        if (seed % 2 == 0) {
            x.begin(true);
            withoutErrors.begin(true);
        }
        for (int i = 0; i < CALLS; i++) {
            long sameSeed = random.nextLong();
            int answer = call(x, new Random(sameSeed));
            Check.due("an answer is no unknown code", Check.oneIf(answer >= -6 && answer <= 20000), 1);
            if (answer < 0 && answer != RingDraughts.NONE) continue;
            Check.due("the answer without errors ahead of it", call(withoutErrors, new Random(sameSeed)), answer);
        }
        Check.same("the state without errors", all(withoutErrors), all(x));
    }

    /** Behind the calls that are promised, answers are free, but no call may throw. */
    private static void driveOn(Random random) {
        RingDraughts x = new RingDraughts();
        for (int i = 0; i < ENDLESS_CALLS; i++) call(x, random);
        Check.due("calls without an end", 1, 1);
    }

    private static int call(RingDraughts x, Random random) {
        int a = number(random);
        int b = number(random);
        switch (random.nextInt(24)) {
            case 0: return x.clock(a);
            case 1: return random.nextInt(8) == 0 ? x.begin(random.nextBoolean()) : x.count(2);
            case 2: case 3: case 4: return x.set(square(random), random.nextInt(4) == 0 ? a : random.nextInt(4));
            case 5: return x.turn(a);
            case 6: case 7: return x.hop(a, b);
            case 8: return x.play(square(random), square(random));
            case 9: return x.playAll();
            case 10: return random.nextInt(4) == 0 ? x.giveUp() : x.undo();
            case 11: return x.square(square(random), a);
            case 12: return x.step(square(random), a);
            case 13: return x.ofHop(a, b);
            case 14: return x.side(a, b);
            case 15: return x.count(a);
            case 16: return x.rows(a);
            case 17: return x.worth(a);
            case 18: return x.best(a);
            case 19: return x.put(characters(random));
            case 20: return random.nextInt(3) == 0 ? x.wipe() : x.fault();
            case 21: return x.undo();
            case 22: return x.save(a);
            default: return x.restore(a);
        }
    }

    private static String all(RingDraughts x) {
        StringBuilder text = new StringBuilder();
        for (int what = 0; what < 10; what++) text.append(x.count(what)).append(' ');
        for (int i = 0; i < 10; i++) text.append(x.side(i / 5, i % 5)).append(' ');
        for (int square = 0; square < 48; square++) text.append(x.square(square, 0)).append(' ');
        return text.append(x.fault()).toString();
    }

    /** Sixteen kings of each side, where the most has to be looked at. */
    private static void crowd() {
        for (int apart = 0; apart < 3; apart++) {
            RingDraughts x = new RingDraughts();
            x.begin(true);
            for (int i = 0; i < 16; i++) {
                x.set(apart == 0 ? i : i * 3 % 48 + i / 16, 1);
                x.set(apart == 0 ? 47 - i : apart == 1 ? i * 3 + 1 : 47 - i * 3, 3);
            }
            for (int i = 0; i < 40 && x.count(0) == 0; i++) {
                int rows = x.rows(3);
                int worth = x.worth(2);
                int best = x.best(2);
                Check.due("crowd: rows", Check.oneIf(rows >= 0 && rows <= 20000), 1);
                Check.due("crowd: worth", Check.oneIf(worth > 700 && worth < 1300), 1);
                Check.due("crowd: best", Check.oneIf(best >= 0 && best < x.count(2)), 1);
                x.hop(best, 1);
            }
        }
    }
}
