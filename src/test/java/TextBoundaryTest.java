/**
 * The boundary cases of a TOWN's text (Terms I) and of promises 1 to 5: for each the last that is taken,
 * the first that is refused, its FAULT and place, and what stands behind it.
 */
public final class TextBoundaryTest {
    private static final int NONE = -1;
    private static final int FAR = Integer.MAX_VALUE;
    private static final int LOW = Integer.MIN_VALUE;

    private static final int CANT_STAND = 1;
    private static final int OUT_OF_BOUNDS = 2;
    private static final int ONE_TOO_MANY = 3;

    private static final String ONE = "meter use 1 digits 3 age 0 at 0 0;";
    private static final String TWO = ONE + "meter below 0 use 1 digits 3 age 0 at 0 0;";
    private static final String TARIFF = "tariff 0 standing 0 first 0 upto 0 beyond 0;";

    /** Every kind of LINE, token by token, with all that may stand in it; below TWO. */
    private static final String[] LINES = {
        "meter below 1 use 2 summer 3 digits 4 start 5 age 6 at 7 8 crawl ;",
        "leak 1 rate 2 since 3 ;",
        "flush 1 litres 2 on 3 ;",
        "empty 1 from 2 to 3 ;",
        "court 1 homes 2 landlord 3 ;",
        "tariff 0 standing 1 first 2 upto 3 beyond 4 ;"};

    private static final String[] FAULTS = {"", "crawl", "stuck", "backward", "half", "double", "old"};

    private static int wrong = 0;
    private static String sentence = "";

    private static void due(String call, long got, long want) {
        if (got != want) {
            wrong++;
            System.out.println(sentence + ": " + call + " answered " + got + ", due is " + want);
        }
    }

    private static void same(String what, String got, String want) {
        if (!got.equals(want)) {
            wrong++;
            System.out.println(sentence + ": " + what + " is " + got + ", was " + want);
        }
    }

    /** Behind what the TAPE has already. */
    private static void feedText(WheelTown x, String text) {
        int before = x.count(5);
        for (int i = 0; i < text.length(); i += 20) {
            x.feed(four(text, i), four(text, i + 4), four(text, i + 8), four(text, i + 12), four(text, i + 16));
        }
        x.end(before + text.length());
    }

    private static int four(String text, int from) {
        int four = 0;
        for (int i = from; i < from + 4; i++) {
            four = four << 8 | (i < text.length() ? text.charAt(i) & 255 : 0);
        }
        return four;
    }

    private static WheelTown of(String text) {
        WheelTown x = new WheelTown();
        feedText(x, text);
        due("town of " + text + " (fault " + x.fault(0) + ")", Math.min(0, x.town()), 0);
        return x;
    }

    private static void right(String text, int lines) {
        WheelTown x = new WheelTown();
        feedText(x, text);
        due("town of " + text, x.town(), lines);
        due("fault(0) of " + text, x.fault(0), 0);
        due("fault(1) of " + text, x.fault(1), NONE);
        due("LINES of " + text, x.count(4), lines);
        due("bytes behind " + text, x.count(5), 0);
    }

    private static void faulty(String text, int fault, int place) {
        WheelTown x = new WheelTown();
        feedText(x, text);
        due("town of " + text, x.town(), -4);
        due("fault(0) of " + text, x.fault(0), fault);
        due("fault(1) of " + text, x.fault(1), place);
        due("METERS behind " + text, x.count(0), 0);
        due("LINES behind " + text, x.count(4), 0);
    }

    public static void main(String[] args) {
        numbersInBounds();
        whatTheEndsOfBoundsTell();
        metersToldAhead();
        eachOnce();
        secondDayNotBelow();
        wholeNumbersAlone();
        everyByte();
        longestTokens();
        cutTexts();
        wrongTokens();
        partsThatMayBeLeftOut();
        partsInOrder();
        oneTooMany();
        firstByPlace();
        newObject();
        tapeIsFull();
        tapeIsCut();
        townInPlaceOfAnother();
        allStays();
        latestTown();
        System.out.println(wrong == 0 ? "all boundaries of texts hold" : wrong + " answers are not as due");
        if (wrong != 0) {
            System.exit(1);
        }
    }

    // ---- Terms I: the bounds of numbers

    /** The least and the greatest are taken, one less and one more are refused, at the number's place. */
    private static void bounded(String ahead, int least, int greatest, String behind, int lines) {
        sentence = "I, numbers";
        int place = ahead.length();
        right(ahead + least + behind, lines);
        right(ahead + greatest + behind, lines);
        right(ahead + "000000000000" + greatest + behind, lines);
        if (least > 0) {
            faulty(ahead + (least - 1) + behind, OUT_OF_BOUNDS, place);
            faulty(ahead + 0 + behind, OUT_OF_BOUNDS, place);
        }
        faulty(ahead + (greatest + 1) + behind, OUT_OF_BOUNDS, place);
        faulty(ahead + greatest + "0000" + behind, OUT_OF_BOUNDS, place);
        faulty(ahead + FAR + behind, OUT_OF_BOUNDS, place);
        faulty(ahead + ((1L << 31) + least) + behind, OUT_OF_BOUNDS, place);
        faulty(ahead + ((1L << 32) + least) + behind, OUT_OF_BOUNDS, place);
        faulty(ahead + "18446744073709551617" + behind, OUT_OF_BOUNDS, place);
        faulty(ahead + "9".repeat(90) + behind, OUT_OF_BOUNDS, place);
        faulty(ahead + (greatest + 1), OUT_OF_BOUNDS, place);
        faulty(ahead + (greatest + 1) + " ? ", OUT_OF_BOUNDS, place);
    }

    private static void numbersInBounds() {
        bounded("meter use ", 0, 999, " digits 3 age 0 at 0 0;", 1);
        bounded("meter use 1 summer ", 0, 999, " digits 3 age 0 at 0 0;", 1);
        bounded("meter use 1 digits ", 3, 6, " age 0 at 0 0;", 1);
        bounded("meter use 1 digits 3 start ", 0, 999999, " age 0 at 0 0;", 1);
        bounded("meter use 1 digits 3 age ", 0, 40, " at 0 0;", 1);
        bounded("meter use 1 digits 3 age 0 at ", 0, 99, " 0;", 1);
        bounded("meter use 1 digits 3 age 0 at 0 ", 0, 99, ";", 1);
        bounded(TWO + "leak 1 rate ", 1, 999, " since 0;", 3);
        bounded(TWO + "leak 1 rate 1 since ", 0, 729, ";", 3);
        bounded(TWO + "flush 1 litres ", 1, 9999, " on 0;", 3);
        bounded(TWO + "flush 1 litres 1 on ", 0, 729, ";", 3);
        bounded(TWO + "empty 1 from ", 0, 729, " to 729;", 3);
        bounded(TWO + "empty 1 from 0 to ", 0, 729, ";", 3);
        bounded(TWO + "court 1 homes ", 1, 99, " landlord 0;", 3);
        bounded(TWO + "court 1 homes 1 landlord ", 0, 100, ";", 3);
        bounded("tariff ", 0, 1, " standing 0 first 0 upto 0 beyond 0;", 1);
        bounded("tariff 0 standing ", 0, 9999, " first 0 upto 0 beyond 0;", 1);
        bounded("tariff 0 standing 0 first ", 0, 999, " upto 0 beyond 0;", 1);
        bounded("tariff 0 standing 0 first 0 upto ", 0, 999999, " beyond 0;", 1);
        bounded("tariff 0 standing 0 first 0 upto 0 beyond ", 0, 999, ";", 1);
    }

    /** What is taken at the ends of the bounds is also what is held. */
    private static void whatTheEndsOfBoundsTell() {
        sentence = "I, what the ends of the bounds tell";
        for (int use : new int[] {0, 999}) {
            WheelTown x = of("meter use " + use + " summer " + (999 - use) + " digits 3 age 0 at 0 0;");
            due("use " + use, x.flow(0, 0, 0), use);
            due("summer " + (999 - use), x.flow(0, 150, 0), 999);
            due("garden", x.garden(0, 0), 90 * (999 - use));
        }
        int tens = 1000;
        for (int digits = 3; digits <= 6; digits++) {
            WheelTown x = of("meter use 1 digits " + digits + " start 999999 age 0 at 0 0 stuck;");
            due(digits + " DIGITS of 999999", x.wheel(0, 0), tens - 1);
            due(digits + " DIGITS, " + tens, x.reading(0, 0, tens, 0), -2);
            due(digits + " DIGITS, " + (tens - 1), x.reading(0, 0, tens - 1, 0), 0);
            tens *= 10;
        }
        due("start 0", of("meter use 1 digits 6 start 0 age 0 at 0 0 stuck;").wheel(0, 729), 0);
        due("0 without start", of("meter use 1 digits 6 age 0 at 0 0 stuck;").wheel(0, 729), 0);
        due("0 without summer", of("meter use 1 digits 6 age 0 at 0 0;").flow(0, 150, 0), 1);
        due("age 0", of("meter use 100 digits 6 age 0 at 0 0 crawl;").turned(0, 364), 100);
        due("age 40", of("meter use 100 digits 6 age 40 at 0 0 crawl;").turned(0, 364), 60);
        due("age 40 in YEAR 1", of("meter use 100 digits 6 age 40 at 0 0 crawl;").turned(0, 365), 59);
        due("at 99 99", of(ONE + "meter use 1 digits 3 age 0 at 99 99;").walk(2), 198);
        due("at 99 0", of(ONE + "meter use 1 digits 3 age 0 at 99 0;").walk(2), 99);
        due("at 0 99", of(ONE + "meter use 1 digits 3 age 0 at 0 99;").walk(2), 99);
        due("rate 1 since 0", of(TWO + "leak 1 rate 1 since 0;").flow(1, 0, 2), 1);
        WheelTown x = of(TWO + "leak 1 rate 999 since 729;flush 1 litres 9999 on 0;flush 1 litres 1 on 729;");
        due("litres 9999 on 0", x.flow(1, 0, 2), 9999);
        due("ahead of 729", x.flow(1, 728, 2), 0);
        due("rate 999 since 729, litres 1 on 729", x.flow(1, 729, 2), 1000);
        x = of(ONE + "court 0 homes 99 landlord 0;tariff 0 standing 9999 first 999 upto 999999 beyond 998;");
        due("bill of 999999", x.bill(999999, 0), 9999 + 998999);
        due("bill of 1000000", x.bill(1000000, 0), 9999 + (999 * 999999 + 998) / 1000);
        x.read(0, 0, NONE);
        x.read(0, 1, NONE);
        due("landlord 0", x.share(0, 1, 2, 1), 0);
        due("homes 99", x.share(0, 1, 2, 0), 101);
        due("left over", x.share(0, 1, 2, 2), 0);
        x = of(ONE + "court 0 homes 1 landlord 100;tariff 1 standing 0 first 0 upto 0 beyond 0;");
        due("a tariff of 0", x.bill(1000000, 1), 0);
        for (int fault = 0; fault < 7; fault++) {
            x = of("meter use 911 digits 3 age 10 at 0 0 " + FAULTS[fault] + ";");
            int[] turns = {911, 820, 0, -911, 455, 1822, 200};
            due("FAULT " + FAULTS[fault], x.turned(0, 0), turns[fault]);
        }
    }

    // ---- Terms I: METERS told ahead

    private static void metersToldAhead() {
        sentence = "I, M: a METER told ahead";
        String chain = ONE;
        for (int m = 1; m < 12; m++) {
            String ahead = chain + "meter below ";
            String behind = " use 1 digits 3 age 0 at 0 0;";
            faulty(ahead + m + behind, OUT_OF_BOUNDS, ahead.length());
            faulty(ahead + (m + 1) + behind, OUT_OF_BOUNDS, ahead.length());
            right(ahead + (m - 1) + behind, m + 1);
            right(ahead + 0 + behind, m + 1);
            chain = ahead + (m - 1) + behind;
        }
        due("through all of a chain", of(chain).flow(0, 0, 1), 12);
        faulty("meter below 0 use 1 digits 3 age 0 at 0 0;", OUT_OF_BOUNDS, 12);
        faulty(ONE + "meter below ;", CANT_STAND, ONE.length() + 12);
        String[] kinds = {"leak 9 rate 1 since 0;", "flush 9 litres 1 on 0;", "empty 9 from 0 to 0;",
            "court 9 homes 1 landlord 0;"};
        for (int kind = 0; kind < 4; kind++) {
            int at = kinds[kind].indexOf('9');
            faulty(kinds[kind].replace("9", "0"), OUT_OF_BOUNDS, at);
            faulty(ONE + kinds[kind].replace("9", "1"), OUT_OF_BOUNDS, ONE.length() + at);
            faulty(TWO + kinds[kind].replace("9", "2"), OUT_OF_BOUNDS, TWO.length() + at);
            faulty(TWO + kinds[kind].replace("9", "12"), OUT_OF_BOUNDS, TWO.length() + at);
            faulty(TWO + kinds[kind].replace("9", "4294967297"), OUT_OF_BOUNDS, TWO.length() + at);
            right(TWO + kinds[kind].replace("9", "1"), 3);
            if (kind < 2) {
                faulty(TWO + kinds[kind].replace("9", "0"), OUT_OF_BOUNDS, TWO.length() + at);
                faulty(TWO + ONE + kinds[kind].replace("9", "2"), OUT_OF_BOUNDS, TWO.length() + 34 + at);
            } else {
                right(TWO + kinds[kind].replace("9", "0"), 3);
            }
            faulty(ONE + kinds[kind].replace("9", "1") + "meter below 0 use 1 digits 3 age 0 at 0 0;",
                    OUT_OF_BOUNDS, ONE.length() + at);
            right(chain + kinds[kind].replace("9", "11"), 13);
            faulty(chain + kinds[kind].replace("9", "12"), OUT_OF_BOUNDS, chain.length() + at);
        }
    }

    private static void eachOnce() {
        sentence = "I, a court once for each METER";
        String courts = TWO + "court 1 homes 1 landlord 0;court 0 homes 2 landlord 1;";
        right(courts, 4);
        faulty(courts + "court 0 homes 1 landlord 0;", OUT_OF_BOUNDS, courts.length() + 6);
        faulty(courts + "court 1", OUT_OF_BOUNDS, courts.length() + 6);
        faulty(courts + "court 2", OUT_OF_BOUNDS, courts.length() + 6);
        sentence = "I, YEAR 0 or 1, each once";
        String other = TARIFF.replace("tariff 0", "tariff 1");
        right(TARIFF + other, 2);
        right(other + TARIFF, 2);
        faulty(TARIFF + TARIFF, OUT_OF_BOUNDS, TARIFF.length() + 7);
        faulty(other + other, OUT_OF_BOUNDS, other.length() + 7);
        faulty(TARIFF + other + "tariff 1", OUT_OF_BOUNDS, 2 * TARIFF.length() + 7);
        faulty(TARIFF + other + "tariff 0 ?", OUT_OF_BOUNDS, 2 * TARIFF.length() + 7);
    }

    private static void secondDayNotBelow() {
        sentence = "I, of empty the second not below the first";
        for (int first : new int[] {1, 364, 365, 729}) {
            String ahead = ONE + "empty 0 from " + first + " to ";
            right(ahead + first + ";", 2);
            right(ahead + 729 + ";", 2);
            faulty(ahead + (first - 1) + ";", OUT_OF_BOUNDS, ahead.length());
            faulty(ahead + 0 + ";", OUT_OF_BOUNDS, ahead.length());
            faulty(ahead + 730 + ";", OUT_OF_BOUNDS, ahead.length());
        }
        due("one DAY", of(ONE + "empty 0 from 729 to 729;").vacant(0), 1);
        due("all DAYS", of(ONE + "empty 0 from 0 to 729;").vacant(0), 730);
    }

    private static void wholeNumbersAlone() {
        sentence = "I, numbers (digits)";
        faulty("meter use -1", CANT_STAND, 10);
        faulty("meter use +1", CANT_STAND, 10);
        faulty("meter use 1.5", CANT_STAND, 11);
        faulty("meter use 0x1", CANT_STAND, 11);
        faulty("meter use 1e1 digits", CANT_STAND, 11);
        due("000 as 0", of("meter use 000 digits 003 age 00 at 000000000000 00;").flow(0, 0, 0), 0);
        due("0099 as 99", of("meter use 0099 digits 003 age 00 at 000000000000 00;").flow(0, 0, 0), 99);
    }

    // ---- Terms I: TOKENS

    private static void everyByte() {
        sentence = "I, TOKENS, blanks (32, 10) aside";
        for (int c = 0; c < 256; c++) {
            String text = "meter use 1" + (char) c + "digits 3 age 0 at 0 0;";
            boolean isDigit = c >= '0' && c <= '9';
            if (c == 32 || c == 10 || isDigit) {
                right(text, 1);
                due("use 1 and byte " + c, of(text).flow(0, 0, 0), isDigit ? 10 + c - '0' : 1);
            } else {
                faulty(text, CANT_STAND, 11);
            }
            boolean isBlank = c == 32 || c == 10;
            if (isBlank) {
                right(ONE + (char) c, 1);
                right((char) c + ONE, 1);
                right("" + (char) c, 0);
            } else {
                faulty(ONE + (char) c, CANT_STAND, 34);
                faulty(ONE + " \n" + (char) c + " ", CANT_STAND, 36);
                faulty("" + (char) c, CANT_STAND, 0);
            }
        }
        faulty("Meter use 1 digits 3 age 0 at 0 0;", CANT_STAND, 0);
        faulty("meter Use 1 digits 3 age 0 at 0 0;", CANT_STAND, 6);
        faulty("meTer use 1 digits 3 age 0 at 0 0;", CANT_STAND, 0);
    }

    private static void longestTokens() {
        sentence = "I, TOKENS, the longest";
        right("meter use 1digits 3age 0at 0 0crawl;meter below 0use 1digits 3age 0at 0 0;", 2);
        faulty("meteruse 1 digits 3 age 0 at 0 0;", CANT_STAND, 0);
        faulty("meter use 1 digits 3 age 0 at 00;", CANT_STAND, 32);
        right("meter use 1 digits 3 age 0 at 00 00;", 1);
        faulty("meter use 1 2 digits 3 age 0 at 0 0;", CANT_STAND, 12);
        faulty("me ter use 1 digits 3 age 0 at 0 0;", CANT_STAND, 0);
        faulty("meter use 1 digits 3 age 0 at 0 0 olds;", CANT_STAND, 34);
        faulty("meter use 1 digits 3 age 0 at 0 0 ol;", CANT_STAND, 34);
        faulty("meter use 1 digits 3 age 0 at 0 0 old1;", CANT_STAND, 37);
        right(ONE + ONE, 2);
        right(ONE + "\n\n  " + ONE + "\n", 2);
        faulty(ONE + ";", CANT_STAND, 34);
        faulty("m", CANT_STAND, 0);
        for (char c = 'a'; c <= 'z'; c++) {
            faulty("meter" + c + " use 1", CANT_STAND, 0);
            faulty("meter use" + c + " 1", CANT_STAND, 6);
            faulty("meter use 1 digits 3 age 0 at 0 0 crawl" + c + ";", CANT_STAND, 34);
            faulty("meter use 1 digits 3 age 0 at 0 0 " + c + "crawl;", CANT_STAND, 34);
        }
        faulty("metermetermetermetermetermetermetermetermeter", CANT_STAND, 0);
    }

    // ---- Terms I: LINES

    /** A text that ends within a LINE has its FAULT at the end, blanks there too. */
    private static void cutTexts() {
        sentence = "I, FAULT 1 at the end's place";
        for (String line : LINES) {
            String[] tokens = line.split(" ");
            StringBuilder text = new StringBuilder(TWO);
            for (int k = 0; k + 1 < tokens.length; k++) {
                text.append(k == 0 ? "" : " ").append(tokens[k]);
                faulty(text.toString(), CANT_STAND, text.length());
                faulty(text + " ", CANT_STAND, text.length() + 1);
                faulty(text + "\n  \n", CANT_STAND, text.length() + 4);
            }
            right(text + ";", 3);
            right(text + " ; \n", 3);
        }
        right("", 0);
        right(" ", 0);
        right("\n", 0);
    }

    /** Where one TOKEN is due another one can't stand, and the FAULT is at its first byte. */
    private static void wrongTokens() {
        sentence = "I, FAULT 1, a TOKEN that can't stand there";
        String[] strangers = {"zzz", "meter", "use", "to", "crawls", "7", "0", "?", ";"};
        for (String line : LINES) {
            String[] tokens = line.split(" ");
            StringBuilder ahead = new StringBuilder(TWO);
            for (int k = 0; k < tokens.length; k++) {
                ahead.append(k == 0 ? "" : " ");
                for (String stranger : strangers) {
                    if (!canStand(tokens, k, stranger)) {
                        faulty(ahead + stranger, CANT_STAND, ahead.length());
                        faulty(ahead + stranger + " " + tokens[k] + " ;", CANT_STAND, ahead.length());
                    }
                }
                ahead.append(tokens[k]);
            }
        }
    }

    private static boolean canStand(String[] tokens, int k, String token) {
        boolean isNumber = Character.isDigit(token.charAt(0));
        if (Character.isDigit(tokens[k].charAt(0))) {
            return isNumber;
        }
        // a METER need not be below another one, nor have a FAULT
        return token.equals(tokens[k]) || k == 0 && token.equals("meter")
                || tokens[k].equals("below") && token.equals("use") || tokens[k].equals("crawl") && token.equals(";");
    }

    private static void partsThatMayBeLeftOut() {
        sentence = "I, [below M] [summer N] [start N] [FAULT]";
        for (int parts = 0; parts < 8; parts++) {
            for (int fault = 0; fault < 7; fault++) {
                String text = TWO + "meter " + ((parts & 1) != 0 ? "below 1 " : "") + "use 40 "
                        + ((parts & 2) != 0 ? "summer 60 " : "") + "digits 5 "
                        + ((parts & 4) != 0 ? "start 123 " : "") + "age 0 at 0 0 " + FAULTS[fault] + ";";
                right(text, 3);
                WheelTown x = of(text);
                due("below 1", x.flow(1, 0, 1), (parts & 1) != 0 ? 41 : 1);
                due("summer", x.flow(2, 239, 0), (parts & 2) != 0 ? 100 : 40);
                int[] turns = {40, 40, 0, -40, 20, 80, 8};
                due("start", x.wheel(2, 0),
                        Math.floorMod(((parts & 4) != 0 ? 123 : 0) + turns[fault], 100000));
            }
        }
    }

    private static void partsInOrder() {
        sentence = "I, LINE, as its parts stand";
        faulty("meter summer 1 use 1 digits 3 age 0 at 0 0;", CANT_STAND, 6);
        faulty("meter use 1 below 0", CANT_STAND, 12);
        faulty("meter use 1 start 1 digits 3 age 0 at 0 0;", CANT_STAND, 12);
        faulty("meter use 1 digits 3 summer 1 age 0 at 0 0;", CANT_STAND, 21);
        faulty("meter use 1 digits 3 age 0 start 1 at 0 0;", CANT_STAND, 27);
        faulty("meter use 1 digits 3 age 0 crawl at 0 0;", CANT_STAND, 27);
        faulty("meter use 1 summer 1 summer 1", CANT_STAND, 21);
        faulty("meter use 1 digits 3 age 0 at 0 0 crawl stuck;", CANT_STAND, 40);
        faulty("meter use 1 digits 3 age 0 at 0 0 below 0;", CANT_STAND, 34);
        faulty(TWO + "leak 1 since 1", CANT_STAND, TWO.length() + 7);
        faulty(TWO + "flush 1 on 1", CANT_STAND, TWO.length() + 8);
        faulty(TWO + "empty 1 to 1", CANT_STAND, TWO.length() + 8);
        faulty(TWO + "court 1 landlord 1", CANT_STAND, TWO.length() + 8);
        faulty("tariff 0 first 1", CANT_STAND, 9);
    }

    // ---- Terms I: how many

    private static void oneTooMany() {
        sentence = "I, FAULT 3, a 13th meter";
        String twelve = ONE.repeat(12);
        right(twelve, 12);
        due("METERS", of(twelve).count(0), 12);
        faulty(twelve + "meter", ONE_TOO_MANY, 408);
        faulty(twelve + " \nmeter", ONE_TOO_MANY, 410);
        faulty(twelve + ONE, ONE_TOO_MANY, 408);
        faulty(twelve + "meter use ?", ONE_TOO_MANY, 408);
        faulty(twelve + "meter below 99 use 1000", ONE_TOO_MANY, 408);
        faulty(twelve + "meters", CANT_STAND, 408);
        right(twelve + TARIFF, 13);
        faulty(twelve + TARIFF + ONE, ONE_TOO_MANY, 408 + TARIFF.length());
        String[] kinds = {"leak 1 rate 1 since 0;", "flush 1 litres 1 on 0;", "empty 1 from 0 to 0;"};
        for (String line : kinds) {
            sentence = "I, FAULT 3, a 7th " + line.substring(0, line.indexOf(' '));
            String six = TWO + line.repeat(6);
            String word = line.substring(0, line.indexOf(' '));
            right(six, 8);
            faulty(six + line, ONE_TOO_MANY, six.length());
            faulty(six + "\n" + line, ONE_TOO_MANY, six.length() + 1);
            faulty(six + word, ONE_TOO_MANY, six.length());
            faulty(six + word + " 0", ONE_TOO_MANY, six.length());
            faulty(six + word + " ?", ONE_TOO_MANY, six.length());
            faulty(six + word + "s", CANT_STAND, six.length());
            right(six + ONE, 9);
            faulty(six + ONE + line, ONE_TOO_MANY, six.length() + 34);
        }
        sentence = "I, LEAKS, FLUSHES, EMPTIES 0 .. 5 each";
        String all = TWO + kinds[0].repeat(6) + kinds[1].repeat(6) + kinds[2].repeat(6);
        right(all, 20);
        WheelTown x = of(all);
        due("six LEAKS", x.count(1), 6);
        due("six LEAKS and six FLUSHES", x.flow(1, 0, 2), 12);
        for (String line : kinds) {
            faulty(all + line, ONE_TOO_MANY, all.length());
        }
        sentence = "I, as many courts as METERS";
        StringBuilder courts = new StringBuilder(twelve);
        for (int m = 0; m < 12; m++) {
            courts.append("court ").append(m).append(" homes 9 landlord 1;");
        }
        right(courts.toString(), 24);
        faulty(courts + "court 11 homes", OUT_OF_BOUNDS, courts.length() + 6);
    }

    private static void firstByPlace() {
        sentence = "I, the first by its place";
        faulty("meter use 1000 ?", OUT_OF_BOUNDS, 10);
        faulty("meter ? use 1000", CANT_STAND, 6);
        faulty("meter use 1000 digits 9", OUT_OF_BOUNDS, 10);
        faulty("meter use 1 digits 9 ?", OUT_OF_BOUNDS, 19);
        faulty("meter use 1 digits ? 9", CANT_STAND, 19);
        String eleven = ONE.repeat(11);
        faulty(eleven + "meter use 1000 digits 3 age 0 at 0 0;" + ONE, OUT_OF_BOUNDS, 374 + 10);
        faulty(eleven + "meter use 1 digits 3 age 0 at 0 0" + ONE, CANT_STAND, 374 + 33);
        String six = TWO + "leak 1 rate 1 since 0;".repeat(6);
        faulty(six + "flush 0 litres 1 on 0;leak 1 rate 1 since 0;", OUT_OF_BOUNDS, six.length() + 6);
        faulty(six + "leak 1 rate 1 since 0;flush 0 litres 1 on 0;", ONE_TOO_MANY, six.length());
        faulty("?" + ONE.repeat(13), CANT_STAND, 0);
        faulty(ONE.repeat(13) + "?", ONE_TOO_MANY, 408);
    }

    // ---- promises 1 to 5

    private static void newObject() {
        sentence = "1, a new object";
        WheelTown x = new WheelTown();
        for (int what = 0; what < 7; what++) {
            due("count(" + what + ")", x.count(what), 0);
        }
        due("no tariffs", x.bill(0, 0), -6);
        due("no tariffs", x.bill(0, 1), -6);
        due("no METERS", x.flow(0, 0, 0), -2);
        due("no READINGS", x.undo(1), -2);
        due("no READINGS", x.undo(0), 0);
        due("no IMAGES", x.back(0), -6);
        due("an empty TAPE", x.town(), 0);
        due("an empty TAPE is a TOWN of none", x.count(0), 0);
    }

    private static int feedBlanks(WheelTown x) {
        return x.feed(0x20202020, 0x200a2020, 0x20202020, 0x20202020, 0x2020200a);
    }

    private static void tapeIsFull() {
        sentence = "2, more than 1,200";
        WheelTown x = new WheelTown();
        for (int i = 1; i <= 58; i++) {
            due("feed " + i, feedBlanks(x), 20 * i);
        }
        feedText(x, "\n\n\n\n\n\n" + ONE);
        due("just 1,200", x.count(5), 1200);
        due("more", x.feed(LOW, FAR, -1, 0, 1), NONE);
        due("more blanks", feedBlanks(x), NONE);
        due("still 1,200", x.count(5), 1200);
        due("none came", x.town(), 1);
        due("a METER at the very end", x.flow(0, 0, 0), 1);
        due("the TAPE is empty then", feedBlanks(x), 20);
        for (int has = 1175; has <= 1185; has++) {
            x = new WheelTown();
            feedText(x, ONE + " ".repeat(1200 - 34));
            x.end(has);
            due("feed at " + has, x.feed(0x203f2020, 0, 0, 0, 0), has <= 1180 ? has + 20 : NONE);
            due("bytes", x.count(5), has <= 1180 ? has + 20 : has);
            due("town()", x.town(), has <= 1180 ? -4 : 1);
            due("place", x.fault(1), has <= 1180 ? has + 1 : NONE);
        }
        sentence = "2, four of each number, the highest first";
        for (int place = 0; place < 20; place++) {
            int[] five = new int[5];
            for (int i = 0; i < 20; i++) {
                five[i / 4] = five[i / 4] << 8 | (i == place ? 200 : 32);
            }
            x = new WheelTown();
            due("feed", x.feed(five[0], five[1], five[2], five[3], five[4]), 20);
            due("town()", x.town(), -4);
            due("byte 200 at", x.fault(1), place);
            due("FAULT", x.fault(0), CANT_STAND);
        }
    }

    private static void tapeIsCut() {
        sentence = "3, its first n bytes alone";
        WheelTown x = new WheelTown();
        for (int n : new int[] {1, -1, LOW, FAR}) {
            due("of an empty TAPE end(" + n + ")", x.end(n), NONE);
        }
        due("end(0)", x.end(0), 0);
        feedText(x, ONE + "      ");
        due("as many", x.end(40), 40);
        due("one more", x.end(41), NONE);
        for (int n : new int[] {-1, LOW, FAR, 41, 60}) {
            due("end(" + n + ")", x.end(n), NONE);
            due("nothing happens", x.count(5), 40);
        }
        due("one less", x.end(39), 39);
        due("those are gone", x.end(40), NONE);
        due("the sign ; is the last", x.end(34), 34);
        due("town()", x.town(), 1);
        due("the TAPE is empty then", x.end(1), NONE);
        due("end(0) of an empty one", x.end(0), 0);
        feedText(x, ONE + ONE);
        due("without the last sign", x.end(67), 67);
        due("town()", x.town(), -4);
        due("at the end", x.fault(1), 67);
        x.end(33);
        feedText(x, ";");
        due("what is fed comes behind what is left", x.town(), 1);
        feedText(x, ONE);
        due("all gone", x.end(0), 0);
        due("town()", x.town(), 0);
        for (int n = 0; n < 34; n++) {
            x = new WheelTown();
            feedText(x, ONE);
            due("end(" + n + ")", x.end(n), n);
            due("town() of " + n, x.town(), n == 0 ? 0 : -4);
            WheelTown alone = new WheelTown();
            feedText(alone, ONE.substring(0, n));
            alone.town();
            due("FAULT of the first " + n, x.fault(0), alone.fault(0));
            due("place of the first " + n, x.fault(1), alone.fault(1));
        }
        x = new WheelTown();
        feedText(x, ONE + "olderwords 12345;");
        x.end(37);
        due("old", x.town(), -4);
        due("a word that can't stand, not longer than it is", x.fault(1), 34);
        x = new WheelTown();
        feedText(x, "meter use 9999");
        x.end(12);
        due("a number of what is left alone", x.town(), -4);
        due("its end", x.fault(1), 12);
        x = new WheelTown();
        feedText(x, " ".repeat(1191) + "meter use");
        due("a word up to the very end", x.town(), -4);
        due("its end", x.fault(1), 1200);
        x = new WheelTown();
        feedText(x, " ".repeat(1189) + "meter use 9");
        due("a number up to the very end", x.town(), -4);
        due("its end", x.fault(1), 1200);
        x = new WheelTown();
        feedText(x, ONE + " ".repeat(1166));
        due("blanks up to the very end", x.town(), 1);
    }

    private static final String ALL =
            "meter use 10 digits 4 age 0 at 0 0;"
            + "meter below 0 use 50 summer 20 digits 3 start 990 age 19 at 3 4 crawl;"
            + "meter below 0 use 20 digits 4 age 5 at 3 0 half;"
            + "leak 1 rate 7 since 2; flush 2 litres 100 on 1; empty 1 from 5 to 9;"
            + "court 0 homes 3 landlord 10;"
            + "tariff 0 standing 100 first 500 upto 100 beyond 900;";

    /** What can be seen of TOWN, READINGS, SLOTS and of how much the TAPE has. */
    private static String state(WheelTown x) {
        StringBuilder s = new StringBuilder();
        for (int what = 0; what < 7; what++) {
            s.append(x.count(what)).append(' ');
        }
        for (int i = 0; i < x.count(2); i++) {
            for (int what = 0; what < 4; what++) {
                s.append(x.told(i, what)).append(' ');
            }
        }
        for (int m = 0; m < x.count(0); m++) {
            s.append("| ").append(x.vacant(m)).append(' ').append(x.garden(m, 1)).append(' ').append(x.fits(m));
            s.append(' ').append(x.share(m, 1, 3, 1)).append(' ').append(x.judge(0, m, 0));
            for (int day : new int[] {0, 1, 2, 5, 9, 10, 150, 365, 729}) {
                for (int what = 0; what < 4; what++) {
                    s.append(' ').append(x.flow(m, day, what));
                }
                s.append(' ').append(x.wheel(m, day)).append(' ').append(x.rod(m, day));
            }
        }
        for (int year = 0; year < 2; year++) {
            s.append(' ').append(x.bill(99, year)).append(' ').append(x.bill(1000000, year));
        }
        s.append(' ').append(x.leak(0)).append(' ').append(x.leak(3)).append(' ').append(x.walk(6));
        return s.toString();
    }

    private static WheelTown told() {
        WheelTown x = of(ALL);
        x.read(0, 0, NONE);
        x.read(0, 2, NONE);
        x.reading(1, 3, 17, 2);
        x.row(0, 2, 2);
        x.write(0, 0, 80);
        x.keep(1);
        return x;
    }

    private static void townInPlaceOfAnother() {
        sentence = "4, in place of another";
        WheelTown x = told();
        feedText(x, ONE);
        due("town()", x.town(), 1);
        int[] counts = {1, 0, 0, 0, 1, 0, 1};
        for (int what = 0; what < 7; what++) {
            due("count(" + what + ")", x.count(what), counts[what]);
        }
        due("no court", x.share(0, 1, 3, 0), -2);
        due("no tariff", x.bill(0, 0), -6);
        due("no METER 1", x.flow(1, 0, 0), -2);
        due("told(0, 0)", x.told(0, 0), NONE);
        due("as a new one", x.reading(0, 0, 0, 0), 0);
        due("an IMAGE stays", x.back(1), 0);
        same("what IMAGE 1 had", state(x), state(told()));
        due("an empty TAPE", x.town(), 0);
        due("no METERS", x.count(0), 0);
        due("no READINGS", x.count(2), 0);
        due("no LINES", x.count(4), 0);
        due("walk(0)", x.walk(0), -2);
        sentence = "4, no READINGS then";
        x = told();
        feedText(x, ALL);
        due("the same TOWN again", x.town(), 8);
        due("READINGS", x.count(2), 0);
        due("of METER 0", x.readings(0, 0), 0);
        due("READING 0", x.read(0, 0, NONE), 0);
    }

    private static void allStays() {
        sentence = "4, a FAULT (all stays)";
        String[] texts = {"?", "meter", "meter use 1000", ONE + "leak 0 rate 1 since 0;", ONE.repeat(13),
            TARIFF + ONE + "x", ALL + "empty 1 from 3 to 2;", ALL.substring(0, ALL.length() - 1), ALL + TARIFF,
            TWO + "court 0 homes 9 landlord 99;court 0 homes 1 landlord 0;"};
        for (String text : texts) {
            WheelTown x = told();
            feedText(x, text);
            String before = state(x);
            due("bytes", x.count(5), text.length());
            due("town()", x.town(), -4);
            same("all behind " + text, state(x), before);
            due("again", x.town(), -4);
            same("all behind " + text, state(x), before);
            int place = x.fault(1);
            due("the TAPE is as it was", x.end(place), place);
            x.end(0);
            feedText(x, TWO);
            due("mended", x.town(), 2);
            due("no READINGS then", x.count(2), 0);
            due("no court of the one with a FAULT", x.share(0, 1, 3, 0), -2);
            due("no tariff of it", x.bill(0, 0), -6);
        }
        WheelTown x = new WheelTown();
        feedText(x, ONE + ONE.substring(0, 33));
        due("a sign is missing", x.town(), -4);
        feedText(x, ";");
        due("it is fed behind what stayed", x.town(), 2);
    }

    private static void latestTown() {
        sentence = "5, ahead of any";
        WheelTown x = new WheelTown();
        due("fault(0)", x.fault(0), 0);
        for (int what : new int[] {1, 2, 3, -1, LOW, FAR}) {
            due("fault(" + what + ")", x.fault(what), NONE);
        }
        sentence = "5, of the latest town()";
        feedText(x, "?");
        x.town();
        due("FAULT 1", x.fault(0), CANT_STAND);
        due("at 0", x.fault(1), 0);
        for (int what : new int[] {2, 3, -1, LOW, FAR}) {
            due("fault(" + what + ")", x.fault(what), NONE);
        }
        x.end(0);
        feedText(x, "meter use 1000");
        due("of the latest, not of the TAPE", x.fault(0), CANT_STAND);
        x.town();
        due("FAULT 2", x.fault(0), OUT_OF_BOUNDS);
        due("at 10", x.fault(1), 10);
        x.end(0);
        feedText(x, ONE.repeat(13));
        x.town();
        due("FAULT 3", x.fault(0), ONE_TOO_MANY);
        due("at 408", x.fault(1), 408);
        x.keep(0);
        x.back(0);
        due("the latest is still that one", x.fault(0), ONE_TOO_MANY);
        x.end(408);
        due("town()", x.town(), 12);
        due("0 without", x.fault(0), 0);
        due("NONE without", x.fault(1), NONE);
        feedText(x, "?");
        x.town();
        due("a FAULT behind a right one", x.fault(0), CANT_STAND);
        x.end(0);
        due("town()", x.town(), 0);
        due("0 without", x.fault(0), 0);
        due("NONE without", x.fault(1), NONE);
    }
}
