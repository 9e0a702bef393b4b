/** The promises 18 to 20, sentence by sentence: put, wipe, fault; and what the terms say of texts. */
final class Promise18To20Test {
    private static final int BAD_VALUE = -2, BAD_TEXT = -3, TOO_MANY = -4, NONE = -6;

    private Promise18To20Test() {
    }

    static void run() {
        promise18Appends();
        promise18GivenAsANumber();
        promise18LengthOfThePad();
        promise18NoCharacter();
        promise18CodesOutOfRange();
        promise18BitsAboveTheEnd();
        promise18LongerThan60();
        promise19Wipe();
        promise20Fault();
        termsTextsOfHops();
        termsTextsSquares();
        termsTextsJumps();
        termsTextsFault();
        termsTextsThatEndTooEarly();
        termsTextsNothingElseMatters();
        termsTextsAllThatAreShort();
    }

    private static void promise18Appends() {
        Check.sentence(18, "Appends characters to the pad.");
        RingDraughts x = new RingDraughts();
        x.put(Check.characters("12"));
        Check.due("two digits", x.fault(), 2);
        x.put(Check.characters("-"));
        x.put(Check.characters("18"));
        Check.due("behind them", x.fault(), NONE);
        x.put(Check.characters(",30-24,1"));
        x.put(Check.characters("8-25,31x"));
        x.put(Check.characters("18"));
        Check.due("played as they were put", x.playAll(), 4);
        Check.due("no change by itself", x.count(9), 1);
    }

    private static void promise18GivenAsANumber() {
        Check.sentence(18, "They are given as a number: its lowest 8 bits are the last character, the next 8 bits the one before, and so on; "
            + "8 bits that are 0 mean that there are no more characters, and everything above them has to be 0, too.");
        long[] numbers = {
            0x31L, 0x3132L, 0x31322dL, 0x31322d31L, 0x31322d3138L, 0x31322d31382cL, 0x31322d31382c33L, 0x31322d31382c3330L,
        };
        int[] faults = {1, 2, 3, NONE, NONE, 6, 7, 8};
        for (int i = 0; i < 8; i++) {
            RingDraughts x = new RingDraughts();
            Check.due("of " + (i + 1) + " characters", x.put(numbers[i]), i + 1);
            Check.due("the fault of " + (i + 1) + " characters", x.fault(), faults[i]);
        }
        RingDraughts x = new RingDraughts();
        x.put(0x31322d3138L);
        Check.due("12-18", x.playAll(), 1);
        Check.due("from 12", x.square(12, 0), NONE);
        Check.due("to 18", x.square(18, 0), 0);
        Check.sentence(18, "`characters`: 1 to 8 characters");
        Check.due("the least", x.put(0x21L), 1);
        Check.due("the most", x.put(0x7e7e7e7e7e7e7e7eL), 9);
    }

    private static void promise18LengthOfThePad() {
        Check.sentence(18, "Returns the length of the pad then");
        RingDraughts x = new RingDraughts();
        int length = 0;
        for (int number = 1; number <= 8; number++) {
            length += number;
            Check.due("behind " + number + " more", x.put(Check.characters("1".repeat(number))), length);
            Check.due("its length", x.count(8), length);
        }
    }

    private static void promise18NoCharacter() {
        Check.sentence(18, "BAD_VALUE if there is no character");
        RingDraughts x = new RingDraughts();
        Check.due("none", x.put(0), BAD_VALUE);
        Check.due("none behind the end", x.put(0x3100L), BAD_VALUE);
        Check.due("none behind seven", x.put(0x3131313131313100L), BAD_VALUE);
        Check.due("the pad", x.count(8), 0);
        Check.putText(x, "1".repeat(60));
        Check.due("none, and a full pad", x.put(0), BAD_VALUE);
    }

    private static void promise18CodesOutOfRange() {
        Check.sentence(18, "a code is not 33 to 126");
        for (int place = 0; place < 8; place++) {
            for (long code = 1; code < 256; code++) {
                RingDraughts x = new RingDraughts();
                long others = 0x3131313131313131L & ~(255L << 8 * place);
                boolean isGood = code >= 33 && code <= 126;
                Check.due("the code " + code + " at " + place, x.put(others | code << 8 * place), isGood ? 8 : BAD_VALUE);
                Check.due("the length then", x.count(8), isGood ? 8 : 0);
                long below = place == 0 ? 0 : others & (1L << 8 * place) - 1;
                Check.due("the code " + code + " as the first of " + (place + 1), x.put(below | code << 8 * place),
                    isGood ? 9 + place : BAD_VALUE);
            }
        }
    }

    private static void promise18BitsAboveTheEnd() {
        Check.sentence(18, "or a bit above 8 bits that are 0 is not 0");
        for (int number = 1; number < 8; number++) {
            long characters = Check.characters("12345678".substring(0, number));
            RingDraughts x = new RingDraughts();
            for (int bit = 8 * number + 8; bit < 64; bit++) {
                Check.due("the bit " + bit + " above " + number, x.put(characters | 1L << bit), BAD_VALUE);
            }
            Check.due("a character above " + number, x.put(number == 7 ? 0 : characters | 0x31L << 8 * number + 8), BAD_VALUE);
            Check.due("the pad", x.count(8), 0);
            Check.due("no bit above " + number, x.put(characters), number);
        }
    }

    private static void promise18LongerThan60() {
        Check.sentence(18, "TOO_MANY if the pad would be longer than 60.");
        for (int number = 1; number <= 8; number++) {
            RingDraughts x = new RingDraughts();
            Check.putText(x, "1".repeat(60 - number));
            if (number < 8) Check.due("one more than there is room for", x.put(Check.characters("2".repeat(number + 1))), TOO_MANY);
            Check.due("nothing is put then", x.count(8), 60 - number);
            Check.due("as many as there is room for", x.put(Check.characters("2".repeat(number))), 60);
            Check.due("one more", x.put('2'), TOO_MANY);
            Check.due("eight more", x.put(Check.characters("22222222")), TOO_MANY);
            Check.due("the full pad", x.count(8), 60);
        }
    }

    private static void promise19Wipe() {
        Check.sentence(19, "Empties the pad, and returns the length that it had.");
        RingDraughts x = new RingDraughts();
        Check.due("an empty pad", x.wipe(), 0);
        Check.putText(x, "1");
        Check.due("one character", x.wipe(), 1);
        Check.due("empty then", x.wipe(), 0);
        Check.due("its length", x.count(8), 0);
        Check.due("its fault", x.fault(), 0);
        Check.putText(x, "12-18,".repeat(10));
        Check.due("a full pad", x.wipe(), 60);
        Check.due("room again", Check.putText(x, "12-18"), 5);
        Check.due("nothing of what was there", x.playAll(), 1);
        Check.putText(x, "30-24");
        Check.due("changes", x.count(9), 1);
        x.wipe();
        Check.due("no change", x.count(9), 1);
        Check.due("hops", x.count(3), 1);
    }

    private static void promise20Fault() {
        Check.sentence(20, "Returns the fault of the pad, NONE if there is none.");
        RingDraughts x = new RingDraughts();
        Check.due("an empty pad", x.fault(), 0);
        Check.putText(x, "0-0");
        Check.due("none", x.fault(), NONE);
        Check.due("none again", x.fault(), NONE);
        Check.due("the pad stays", x.count(8), 3);
        Check.putText(x, ",");
        Check.due("at the end", x.fault(), 4);
        Check.putText(x, ",");
        Check.due("a character", x.fault(), 4);
        x.wipe();
        Check.putText(x, "0-0,".repeat(15));
        Check.due("the end of a full pad", x.fault(), 60);
        x.wipe();
        Check.putText(x, "0-0,".repeat(14) + "0-0x");
        Check.due("the last character of a full pad", x.fault(), 59);
        x.wipe();
        Check.putText(x, "0-0,".repeat(14) + "0-10");
        Check.due("none in a full pad", x.fault(), NONE);
        Check.due("no change", x.count(9), 0);
    }

    /** The fault of a text, and that playAll() has the same opinion of it. */
    private static void fault(String text, int want) {
        RingDraughts x = new RingDraughts();
        Check.putText(x, text);
        Check.due("the fault of " + text, x.fault(), want);
        Check.due("playAll of " + text, Check.oneIf(x.playAll() == BAD_TEXT), Check.oneIf(want != NONE));
    }

    private static void termsTextsOfHops() {
        Check.sentence(0, "text = hop { \",\" hop }; hop = square ( \"-\" | \"x\" ) square");
        fault("1-2", NONE);
        fault("1x2", NONE);
        fault("1-2,3x4", NONE);
        fault("1-2,3x4,5-6,7x8,9-10", NONE);
        fault(",1-2", 0);
        fault("-1-2", 0);
        fault("1,2", 1);
        fault("1--2", 2);
        fault("1-x2", 2);
        fault("1-2-3", 3);
        fault("1-2x3", 3);
        fault("1-2,,3-4", 4);
        fault("1-2,-3", 4);
        fault("1-2.3-4", 3);
        fault("1:2", 1);
        fault("1X2", 1);
        fault("a", 0);
        fault("1-a", 2);
        Check.sentence(0, "The pad is a text of at most 60 characters");
        RingDraughts x = new RingDraughts();
        Check.due("60 of them", Check.putText(x, "1".repeat(60)), 60);
        Check.due("61 of them", x.put('1'), TOO_MANY);
    }

    private static void termsTextsSquares() {
        Check.sentence(0, "a square is a number from 0 to 47 without leading zeros");
        for (int square = 0; square < 100; square++) {
            int first = square < 48 ? NONE : 1;
            fault(square + "-1", first);
            fault("1-" + square, first == NONE ? NONE : 3);
            fault("10-11," + square + "x12", first == NONE ? NONE : 7);
        }
        for (int digit = 0; digit < 10; digit++) {
            fault("0" + digit + "-1", 1);
            fault("1-0" + digit, 3);
            fault("10" + digit + "-1", 2);
            fault("1-47" + digit, 4);
            fault("4" + digit + digit, digit <= 7 ? 2 : 1);
        }
    }

    private static void termsTextsJumps() {
        Check.sentence(0, "\"x\" means a jump");
        RingDraughts x = Check.board(0, 0, 0, 6, 2, 44, 2);
        Check.due("a jump told as none", Check.playText(x, "0-13"), 0);
        Check.due("a jump told as one", Check.playText(x, "0x13"), 1);
        Check.due("a step told as a jump", Check.playText(x, "44x38"), 0);
        Check.due("a step told as none", Check.playText(x, "44-38"), 1);
    }

    private static void termsTextsFault() {
        Check.sentence(0, "The fault is the index of the first character that cannot stand at its place when the text is read from left to right "
            + "(also of a digit by which a square would be above 47");
        fault("48", 1);
        fault("50-1", 1);
        fault("99", 1);
        fault("1-48", 3);
        fault("1-99,a", 3);
        fault("123", 2);
        fault("470", 2);
        fault("1-2,470-1", 6);
        fault("a-b", 0);
        fault("1-2a48", 3);
        for (char sign = 33; sign <= 126; sign++) {
            boolean isDigit = sign >= '0' && sign <= '9';
            boolean isHopSign = sign == '-' || sign == 'x';
            fault("" + sign, isDigit ? 1 : 0);
            fault("1" + sign, isDigit || isHopSign ? 2 : 1);
            fault("5" + sign, isHopSign ? 2 : 1);
            fault("20" + sign, isHopSign ? 3 : 2);
            fault("20-" + sign, isDigit ? NONE : 3);
            fault("20-5" + sign, sign == ',' ? 5 : 4);
            fault("20-40" + sign, sign == ',' ? 6 : 5);
            fault("20-40," + sign, isDigit ? 7 : 6);
        }
    }

    private static void termsTextsThatEndTooEarly() {
        Check.sentence(0, "if there is none and the text ends too early (also if it is empty), it is the length of the text");
        String[] texts = {"", "1", "12", "1-", "1x", "12-", "1-2,", "1-2,3", "1-2,34", "1-2,34x", "1-2,3-4,", "0", "0-"};
        for (String text : texts) fault(text, text.length());
        String whole = "12-18,30x24";
        for (int length = 0; length <= whole.length(); length++) {
            boolean isWhole = length == 4 || length == 5 || length >= 10;
            fault(whole.substring(0, length), isWhole ? NONE : length);
        }
    }

    private static void termsTextsNothingElseMatters() {
        Check.sentence(0, "nothing else matters");
        fault("0-0", NONE);
        fault("0x47", NONE);
        fault("12-30,12-30", NONE);
        RingDraughts x = new RingDraughts();
        x.giveUp();
        Check.putText(x, "12-18");
        Check.due("in an ended game", x.fault(), NONE);
    }

    /** Every text of up to five of these characters, against the form of a text told as a pattern. */
    private static void termsTextsAllThatAreShort() {
        Check.sentence(0, "The fault is the index of the first character that cannot stand at its place");
        String signs = "0478-x,a";
        for (int length = 1; length <= 5; length++) {
            int number = 1;
            for (int i = 0; i < length; i++) number *= signs.length();
            for (int code = 0; code < number; code++) {
                StringBuilder text = new StringBuilder();
                for (int rest = code, i = 0; i < length; i++, rest /= signs.length()) text.append(signs.charAt(rest % signs.length()));
                fault(text.toString(), Model.faultOf(text.toString()));
            }
        }
    }
}
