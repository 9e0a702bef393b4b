/** Promises 18 to 20: put, wipe, fault. */
final class TextTest {
    private static final int BAD_VALUE = -2, BAD_TEXT = -3, TOO_MANY = -4, NONE = -6;

    private TextTest() {
    }

    static void run() {
        putAnswers();
        putRefuses();
        putKeepsTheOrder();
        padIsFull();
        wipeAnswers();
        faults();
        faultOfAnyCharacter();
        padIsNoPartOfTheGame();
    }

    private static void putAnswers() {
        RingDraughts x = new RingDraughts();
        Check.due("put 1", x.put('1'), 1);
        Check.due("put the least code", x.put(33), 2);
        Check.due("put the greatest code", x.put(126), 3);
        Check.due("put 8", x.put(Check.characters("12345678")), 11);
        Check.due("put: length", x.count(8), 11);
        Check.due("put: no change", x.count(9), 0);
    }

    private static void putRefuses() {
        RingDraughts x = new RingDraughts();
        long[] wrong = {
            0, 1, 32, 127, 128, 255, -1, Long.MIN_VALUE, Long.MAX_VALUE, 0x3100, 0x310031, 0x3100000000000000L,
            0x0131, 0x3120, 0x317f, 0x80_31_31_31_31_31_31_31L, 0x7f_31_31_31_31_31_31_31L, 0x20_31_31_31_31_31_31_31L,
            0x01_00_31_31_31_31_31_31L, 0x00_31_31_31_31_31_31_00L,
        };
        for (long characters : wrong) Check.due("put " + characters, x.put(characters), BAD_VALUE);
        Check.due("put: nothing changed", x.count(8), 0);
    }

    private static void putKeepsTheOrder() {
        RingDraughts x = new RingDraughts();
        x.put(Check.characters("12-1"));
        x.put(Check.characters("8"));
        Check.due("put: text", x.fault(), NONE);
        Check.due("put: made", x.playAll(), 1);
        Check.due("put: from 12 to 18", x.square(18, 0), 0);
        x.put(Check.characters("30-24"));
        Check.due("put: eight bits a character", x.playAll(), 1);
    }

    private static void padIsFull() {
        RingDraughts x = new RingDraughts();
        for (int i = 1; i <= 7; i++) Check.due("full: put 8", x.put(Check.characters("........")), 8 * i);
        Check.due("full: 5 are too many", x.put(Check.characters(".....")), TOO_MANY);
        Check.due("full: 8 are too many", x.put(Check.characters("........")), TOO_MANY);
        Check.due("full: a bad value first", x.put(0x2e20_2e2e2eL), BAD_VALUE);
        Check.due("full: nothing changed", x.count(8), 56);
        Check.due("full: 4", x.put(Check.characters("....")), 60);
        Check.due("full: one more", x.put('.'), TOO_MANY);
        Check.due("full: wipe", x.wipe(), 60);
        Check.due("full: there is room again", x.put('.'), 1);
        RingDraughts y = new RingDraughts();
        Check.putText(y, "12-18,30-24,13-19,31-25,14-20,32-26,15-21,33-27,16-22,35-29");
        Check.due("full: a whole text of 59", y.count(8), 59);
        Check.due("full: its fault", y.fault(), NONE);
    }

    private static void wipeAnswers() {
        RingDraughts x = new RingDraughts();
        Check.due("wipe nothing", x.wipe(), 0);
        x.put(Check.characters("abc"));
        Check.due("wipe three", x.wipe(), 3);
        Check.due("wipe again", x.wipe(), 0);
        Check.due("wipe: no change", x.count(9), 0);
        Check.due("wipe: fault", x.fault(), 0);
    }

    private static void fault(String text, int want) {
        RingDraughts x = new RingDraughts();
        Check.putText(x, text);
        Check.due("fault of " + text, x.fault(), want);
        Check.due("length of " + text, x.count(8), text.length());
        if (want != NONE) Check.due("playAll of " + text, x.playAll(), BAD_TEXT);
    }

    private static void faults() {
        String[] good = {"0-0", "47x47", "9-9", "10-10", "39x0,0-47", "1-2,3x4,5-6", "12-18", "40-41"};
        for (String text : good) fault(text, NONE);
        Object[][] bad = {
            {"", 0}, {"1", 1}, {"12", 2}, {"1-", 2}, {"12x", 3}, {"1-2,", 4}, {"1-2,3", 5}, {"1-2,30-", 7},
            {"-", 0}, {"x1", 0}, {",", 0}, {"a", 0}, {"1,", 1}, {"1--", 2}, {"1-x", 2}, {"1-,", 2}, {"1-2-", 3},
            {"1-2x3", 3}, {"1-2,,", 4}, {"1-2,x", 4}, {"00-1", 1}, {"01-1", 1}, {"1-00", 3}, {"1-05", 3},
            {"48-1", 1}, {"50-1", 1}, {"99-1", 1}, {"1-48", 3}, {"1-50", 3}, {"123-4", 2}, {"100", 2}, {"1-470", 4},
            {"470-1", 2}, {"1X2", 1}, {"1+2", 1}, {"1-2;3-4", 3}, {"1-2.", 3}, {"5", 1}, {"50", 1}, {"4", 1}, {"1-2,48", 5},
        };
        for (Object[] row : bad) fault((String) row[0], (Integer) row[1]);
    }

    private static void faultOfAnyCharacter() {
        for (char sign = 33; sign <= 126; sign++) {
            boolean isDigit = sign >= '0' && sign <= '9';
            boolean isHopSign = sign == '-' || sign == 'x';
            fault(sign + "-1", isDigit ? NONE : 0);
            fault("0" + sign, isHopSign ? 2 : 1);
            fault("4" + sign, isDigit && sign <= '7' || isHopSign ? 2 : 1);
            fault("4" + sign + "4", isHopSign ? NONE : isDigit && sign <= '7' ? 2 : 1);
            fault("1-2" + sign, isDigit ? NONE : sign == ',' ? 4 : 3);
        }
    }

    private static void padIsNoPartOfTheGame() {
        RingDraughts x = new RingDraughts();
        x.put(Check.characters("12-18"));
        x.save(0);
        x.begin(true);
        Check.due("pad: stays in a new game", x.count(8), 5);
        x.undo();
        Check.due("pad: stays behind undo", x.count(8), 5);
        x.wipe();
        x.restore(0);
        Check.due("pad: does not come back", x.count(8), 0);
    }
}
