import java.util.function.IntSupplier;
import java.util.function.Supplier;

/**
 * The boundary cases of Terms II to XII and of promises 6 to 57: for each the last that is taken, the
 * first that is refused, and that behind a refused call all is as it was.
 */
public final class BoundaryTest {
    private static final int NONE = -1;
    private static final int NOTHING = -2000000000;
    private static final int FAR = Integer.MAX_VALUE;
    private static final int LOW = Integer.MIN_VALUE;

    private static final String ONE = "meter use 1 digits 3 age 0 at 0 0;";

    /*
     * Through METER 0: 80, 180, 87, 87, 87, then 37 on DAYS 5 .. 9, then 87; in summer 107.
     * TURNS of METER 1: 41, none on DAYS 5 .. 9, 57 in summer; in YEAR 1: 40, in summer 56.
     */
    private static final String BASE =
            "meter use 10 digits 4 age 0 at 0 0;"
            + "meter below 0 use 50 summer 20 digits 3 start 990 age 19 at 3 4 crawl;"
            + "meter below 0 use 20 digits 4 age 5 at 3 0 half;"
            + "leak 1 rate 7 since 2;flush 2 litres 100 on 1;empty 1 from 5 to 9;"
            + "court 0 homes 3 landlord 10;"
            + "tariff 0 standing 100 first 500 upto 100 beyond 900;"
            + "tariff 1 standing 50 first 100 upto 10 beyond 200;";

    private static int wrong = 0;
    private static String sentence = "";

    /** A call of a METER and a DAY, or of others that go in pairs. */
    private interface PairCall {
        int of(WheelTown x, int a, int b);
    }

    /** A call over DAYS from .. to. */
    private interface SpanCall {
        int of(WheelTown x, int meter, int from, int to);
    }

    /** A call by one number that is looked at. */
    private interface OneCall {
        int of(WheelTown x, int n);
    }

    private static void due(String call, long got, long want) {
        if (got != want) {
            wrong++;
            System.out.println(sentence + ": " + call + " answered " + got + ", due is " + want);
        }
    }

    private static void taken(String call, int got, int refusal) {
        if (got == refusal) {
            wrong++;
            System.out.println(sentence + ": " + call + " is refused: " + got);
        }
    }

    private static void refused(WheelTown x, String call, IntSupplier run, int refusal) {
        leavesAll(x, call, run, refusal);
    }

    /** The answer is as due, and nothing that can be seen has changed. */
    private static void leavesAll(WheelTown x, String call, IntSupplier run, int want) {
        String before = state(x);
        due(call, run.getAsInt(), want);
        String after = state(x);
        if (!before.equals(after)) {
            wrong++;
            System.out.println(sentence + ": " + call + " has changed\n" + before + "\nto\n" + after);
        }
    }

    private static int four(String text, int from) {
        int four = 0;
        for (int i = from; i < from + 4; i++) {
            four = four << 8 | (i < text.length() ? text.charAt(i) & 255 : 0);
        }
        return four;
    }

    private static void tell(WheelTown x, String text) {
        for (int i = 0; i < text.length(); i += 20) {
            x.feed(four(text, i), four(text, i + 4), four(text, i + 8), four(text, i + 12), four(text, i + 16));
        }
        x.end(text.length());
        due("town of " + text, Math.min(0, x.town()), 0);
    }

    private static WheelTown of(String text) {
        WheelTown x = new WheelTown();
        tell(x, text);
        return x;
    }

    /** Rows in SLOTS 0 (the first WHEELS of METER 0) and 1, all IMAGES kept, some bytes, and READINGS. */
    private static WheelTown full() {
        WheelTown x = of(BASE);
        for (int m = 0; m < 3; m++) {
            x.read(m, 0, NONE);
            x.read(m, 2, NONE);
        }
        x.reading(0, 5, 600, 2);
        x.row(0, 2, 4);
        for (int i = 0; i < 4; i++) {
            x.write(0, i, x.wheel(0, i));
        }
        x.row(1, 0, 2);
        for (int k = 0; k < 3; k++) {
            x.keep(k);
        }
        x.feed(1, 2, 3, 4, 5);
        return x;
    }

    private static WheelTown twelve() {
        return of(ONE.repeat(12));
    }

    /** What can be seen of an object by calls that only look. */
    private static String state(WheelTown x) {
        StringBuilder s = new StringBuilder();
        s.append(x.fault(0)).append(' ').append(x.fault(1)).append(' ');
        for (int what = 0; what < 7; what++) {
            s.append(x.count(what)).append(' ');
        }
        for (int i = 0; i < x.count(2); i++) {
            for (int what = 0; what < 4; what++) {
                s.append(x.told(i, what)).append(' ');
            }
        }
        for (int m = 0; m < x.count(0); m++) {
            s.append("| ").append(x.vacant(m)).append(' ').append(x.garden(m, 1)).append(' ').append(x.fits(m));
            s.append(' ').append(x.share(m, 1, 3, 1)).append(' ').append(x.missed(m)).append(' ').append(x.span(m));
            for (int slot = 0; slot < 4; slot++) {
                s.append(' ').append(x.judge(slot, m, 0));
            }
            for (int day : new int[] {0, 1, 2, 5, 9, 10, 150, 365, 729}) {
                for (int what = 0; what < 4; what++) {
                    s.append(' ').append(x.flow(m, day, what));
                }
                s.append(' ').append(x.wheel(m, day)).append(' ').append(x.rod(m, day));
            }
        }
        for (int year = 0; year < 2; year++) {
            s.append(' ').append(x.bill(99, year)).append(' ').append(x.bill(1000000, year));
        }
        s.append(' ').append(x.leak(0)).append(' ').append(x.leak(1)).append(' ').append(x.leak(3));
        s.append(' ').append(x.sets()).append(' ').append(x.walk((1 << x.count(0)) - 1));
        return s.toString();
    }

    public static void main(String[] args) {
        sweeps();
        daysAndSummers();
        turnsAndWheels();
        readingsTold();
        balances();
        faultsThatFit();
        leaksSupposed();
        nextReadings();
        walks();
        bills();
        changes();
        nights();
        uses();
        errorsAndLots();
        guesses();
        imagesAndSlots();
        nothingIsLeftOver();
        System.out.println(wrong == 0 ? "all boundaries hold" : wrong + " answers are not as due");
        if (wrong != 0) {
            System.exit(1);
        }
    }

    // ---- what was is gone

    /** Twelve METERS below each other, and six of all that there can be six of; of 1,200 bytes at most. */
    private static String most() {
        String[] faults = {"", "crawl", "stuck", "backward", "half", "double", "old"};
        StringBuilder text = new StringBuilder();
        for (int m = 0; m < 12; m++) {
            text.append("meter ").append(m == 0 ? "" : "below " + (m - 1) / 2).append(" use ").append(90 - m)
                    .append(m % 3 == 0 ? "summer 77" : "").append("digits ").append(3 + m % 4)
                    .append(m % 3 == 1 ? "start 55" : "").append("age 40at ").append(99 - m)
                    .append(' ').append(7 * m).append(faults[m % 7]).append(';');
        }
        for (int i = 0; i < 6; i++) {
            text.append("leak ").append(11 - i).append("rate 99since ").append(9 * i).append(';');
            text.append("flush ").append(11 - i).append("litres 99on ").append(9 * i).append(';');
            text.append("empty ").append(i).append("from 0to ").append(9 * i).append(';');
        }
        return text.append("court 0homes 3landlord 9;court 1homes 9landlord 3;")
                .append("tariff 1standing 1first 2upto 3beyond 4;tariff 0standing 5first 6upto 7beyond 8;").toString();
    }

    /** All that can be looked at, at many METERS, DAYS and spans. */
    private static String everything(WheelTown x) {
        StringBuilder s = new StringBuilder(state(x));
        int meters = x.count(0);
        int[] days = {0, 1, 9, 59, 60, 150, 240, 364, 365, 719, 720, 729};
        for (int day : days) {
            s.append('\n').append(x.next(day)).append(' ').append(x.loudest(day)).append(' ').append(x.worst(day));
            s.append(' ').append(x.drought(10, day)).append(' ').append(x.limit(100, day));
            s.append(' ').append(x.change(2500, day)).append(' ').append(x.round(60, day));
            s.append(' ').append(x.lot(day, meters, day, 9));
        }
        for (int what = 0; what < 4; what++) {
            s.append(' ').append(x.leak(what));
            for (int sort = 0; sort < 3; sort++) {
                s.append(' ').append(x.errors(sort, what));
            }
        }
        for (int m = 0; m <= meters; m++) {
            s.append('\n').append(x.alone(m)).append(' ').append(x.ways(m)).append(' ').append(x.missed(m));
            s.append(' ').append(x.readings(m, 0)).append(' ').append(x.readings(m, 1));
            for (int i = 0; i < 7; i++) {
                s.append(' ').append(x.counted(m, i)).append(' ').append(x.bursts(m, i)).append(' ');
                s.append(x.step((1 << meters) - 1, i));
            }
            for (int day : days) {
                s.append(' ').append(x.turned(m, day)).append(' ').append(x.unlike(m, day)).append(' ');
                s.append(x.won(m, day)).append(' ').append(x.off(m, day)).append(' ').append(x.burst(m, day));
                s.append(' ').append(x.guess(m, day)).append(' ').append(x.night(m, day));
                for (int to : new int[] {1, 2, 3, 6, 10, 366, 730}) {
                    s.append(' ').append(x.billed(m, day, to)).append(' ').append(x.appeal(m, day, to));
                    for (int what = 0; what < 2; what++) {
                        s.append(' ').append(x.balance(m, day, to, what)).append(' ').append(x.lost(m, day, to, what));
                        s.append(' ').append(x.owed(m, day, to, what)).append(' ').append(x.share(m, day, to, what));
                    }
                }
            }
        }
        return s.toString();
    }

    private static void sameAs(String what, WheelTown x, String want) {
        String got = everything(x);
        if (!got.equals(want)) {
            wrong++;
            System.out.println(sentence + ": " + what + " is\n" + got + "\ndue is\n" + want);
        }
    }

    /** READINGS of all METERS, on other DAYS, by other sorts and with other WHEELS for each shift. */
    private static void readMany(WheelTown x, int shift, int most) {
        for (int i = 0; i < most; i++) {
            int meter = (i * 5 + shift) % x.count(0);
            int day = 2 * i + shift;
            if (i % 2 == 0) {
                x.read(meter, day, i % 3 - 1);
            } else {
                x.reading(meter, day, 7 * i + shift, (i / 2 + shift) % 3);
            }
        }
    }

    private static void nothingIsLeftOver() {
        String[] texts = {most(), BASE, "", ONE, most(), BASE, most(), ONE, BASE, ""};
        WheelTown x = new WheelTown();
        sentence = "4, in place of another; no READINGS then";
        for (String text : texts) {
            tell(x, text);
            sameAs("a TOWN behind others", x, everything(of(text)));
            if (!text.isEmpty()) {
                readMany(x, 3, 100);
                everything(x);
            }
        }
        for (String text : new String[] {most(), BASE, ONE}) {
            WheelTown y = of(text);
            readMany(y, 0, 40);
            String first = everything(y);
            int many = y.count(2);
            sentence = "11, the last n READINGS are gone";
            readMany(y, 100, 70);
            everything(y);
            due("undo", y.undo(y.count(2) - many), many);
            sameAs("what was ahead of them", y, first);
            sentence = "53, 54, as IMAGE k has them";
            y.keep(0);
            y.undo(many);
            readMany(y, 5, 60);
            String second = everything(y);
            y.keep(1);
            tell(y, "meter use 3 digits 5 age 1 at 1 1 old;meter below 0 use 4 digits 6 age 2 at 2 2;"
                    + "leak 1 rate 9 since 1;empty 0 from 2 to 5;court 1 homes 2 landlord 1;"
                    + "tariff 0 standing 9 first 8 upto 7 beyond 6;");
            readMany(y, 1, 50);
            String third = everything(y);
            y.keep(2);
            y.back(0);
            sameAs("IMAGE 0", y, first);
            y.back(2);
            sameAs("IMAGE 2", y, third);
            y.back(1);
            sameAs("IMAGE 1", y, second);
            tell(y, text);
            readMany(y, 0, 40);
            sameAs("told again", y, first);
            y.back(2);
            y.back(0);
            sameAs("IMAGE 0 again", y, first);
        }
        full120();
    }

    /** Rows that are full to their ends: nothing behind them is looked at. */
    private static void full120() {
        sentence = "9, there are 120, of twelve METERS";
        WheelTown x = of(most());
        for (int i = 0; i < 120; i++) {
            x.reading(i % 12, 60 + i / 12, i, i % 3);
        }
        due("READINGS", x.count(2), 120);
        String full = everything(x);
        due("the 121st", x.reading(0, 729, 0, 0), -3);
        sameAs("all", x, full);
        for (int m = 0; m < 12; m++) {
            due("no READING there", x.billed(m, 100, 200), NONE);
            due("none ahead", x.balance(m, 1, 60, 1), NONE);
            due("none ahead", x.guess(m, 59), NONE);
            due("none behind", x.balance(m, 100, 200, 1), NONE);
            due("none behind", x.balance(m, 100, 200, 0), 0);
        }
    }

    // ---- numbers that each promise takes

    private static void sweeps() {
        sweepMetersAndDays();
        sweepMeters();
        sweepDays();
        sweepSpans();
        sweepWhats();
        sweepAmounts();
        sweepSlots();
    }

    private static void pairs(String name, int refusal, PairCall call) {
        sentence = name;
        for (int meters : new int[] {3, 12}) {
            Supplier<WheelTown> made = meters == 3 ? BoundaryTest::full : BoundaryTest::judged;
            for (int day : new int[] {6, 364, 365, 729}) {
                taken("METER 0, DAY " + day, call.of(made.get(), 0, day), refusal);
                taken("the last METER, DAY " + day, call.of(made.get(), meters - 1, day), refusal);
            }
            for (int meter : new int[] {-1, LOW, FAR, meters, meters + 1, 12, 31, 32, 64}) {
                WheelTown x = made.get();
                refused(x, "METER " + meter, () -> call.of(x, meter, 6), refusal);
                refused(x, "METER " + meter, () -> call.of(x, meter, 729), refusal);
            }
            for (int day : new int[] {-1, -365, LOW, FAR, 730, 731, 1095}) {
                WheelTown x = made.get();
                refused(x, "DAY " + day, () -> call.of(x, 0, day), refusal);
                refused(x, "DAY " + day, () -> call.of(x, meters - 1, day), refusal);
            }
        }
        WheelTown none = new WheelTown();
        refused(none, "METER 0 of none", () -> call.of(none, 0, 0), refusal);
    }

    private static WheelTown judged() {
        WheelTown x = twelve();
        x.row(0, 3, 60);
        return x;
    }

    private static void sweepMetersAndDays() {
        for (int what = 0; what < 4; what++) {
            int w = what;
            pairs("6, flow, what " + w, -2, (x, m, d) -> x.flow(m, d, w));
        }
        pairs("7, turned", NOTHING, (x, m, d) -> x.turned(m, d));
        pairs("8, wheel", -2, (x, m, d) -> x.wheel(m, d));
        pairs("9, reading", -2, (x, m, d) -> x.reading(m, d, 0, 0));
        pairs("10, read", -2, (x, m, d) -> x.read(m, d, NONE));
        pairs("25, unlike", -2, (x, m, d) -> x.unlike(m, d));
        pairs("33, won", -2, (x, m, d) -> x.won(m, d));
        pairs("34, night", -2, (x, m, d) -> x.night(m, d));
        pairs("35, rod", -2, (x, m, d) -> x.rod(m, d));
        pairs("40, off", NOTHING, (x, m, d) -> x.off(m, d));
        pairs("43, burst", NOTHING, (x, m, d) -> x.burst(m, d));
        pairs("50, guess", -2, (x, m, d) -> x.guess(m, d));
        pairs("51, judge", -2, (x, m, d) -> x.judge(0, m, d));
        sentence = "DAY 0 is one";
        WheelTown x = of(BASE);
        x.row(0, 0, 1);
        due("flow(0, 0, 1)", x.flow(0, 0, 1), 80);
        due("turned(1, 0)", x.turned(1, 0), 41);
        due("wheel(1, 0)", x.wheel(1, 0), 31);
        due("read(1, 0, NONE)", x.read(1, 0, NONE), 0);
        due("reading(0, 0, 0, 2)", x.reading(0, 0, 0, 2), 1);
        due("unlike(1, 0)", x.unlike(1, 0), 1);
        due("won(2, 0)", x.won(2, 0), 3650);
        due("night(0, 0)", x.night(0, 0), 0);
        due("rod(0, 0)", x.rod(0, 0), 0);
        due("off(2, 0)", x.off(2, 0), -500);
        due("burst(0, 0)", x.burst(0, 0), 0);
        due("guess(0, 0)", x.guess(0, 0), NONE);
        due("judge(0, 0, 0)", x.judge(0, 0, 0), 0);
    }

    private static void meters(String name, int refusal, OneCall call) {
        sentence = name;
        for (int meters : new int[] {3, 12}) {
            WheelTown x = meters == 3 ? of(BASE) : twelve();
            taken("METER 0", call.of(x, 0), refusal == NONE ? NOTHING : refusal);
            taken("the last METER", call.of(x, meters - 1), refusal == NONE ? NOTHING : refusal);
            for (int meter : new int[] {-1, LOW, FAR, meters, meters + 1, 12, 31, 32, 64}) {
                refused(x, "METER " + meter, () -> call.of(x, meter), refusal);
            }
        }
        WheelTown none = new WheelTown();
        refused(none, "METER 0 of none", () -> call.of(none, 0), refusal);
    }

    private static void sweepMeters() {
        meters("13, readings", -2, (x, m) -> x.readings(m, 0));
        meters("13, readings", -2, (x, m) -> x.readings(m, 1));
        meters("14, counted", -2, (x, m) -> x.counted(m, 0));
        meters("17, fits", -2, (x, m) -> x.fits(m));
        meters("20, alone", NONE, (x, m) -> x.alone(m));
        meters("21, ways", -2, (x, m) -> x.ways(m));
        meters("23, span", -2, (x, m) -> x.span(m));
        meters("44, bursts", -2, (x, m) -> x.bursts(m, 0));
        meters("47, garden", -2, (x, m) -> x.garden(m, 0));
        meters("48, vacant", -2, (x, m) -> x.vacant(m));
        meters("49, missed", -2, (x, m) -> x.missed(m));
        sentence = "20, alone";
        due("METER 0 without READINGS", twelve().alone(0), 0);
        due("METER 11 without READINGS", twelve().alone(11), 0);
    }

    private static void days(String name, OneCall call) {
        sentence = name;
        WheelTown x = full();
        for (int day : new int[] {0, 364, 365, 729}) {
            taken("DAY " + day, call.of(x, day), -2);
        }
        for (int day : new int[] {-1, -365, LOW, FAR, 730, 731, 1095}) {
            refused(x, "DAY " + day, () -> call.of(x, day), -2);
        }
    }

    private static void sweepDays() {
        days("24, next", (x, d) -> x.next(d));
        days("28, round", (x, d) -> x.round(7, d));
        days("32, change", (x, d) -> x.change(99999, d));
        days("36, loudest", (x, d) -> x.loudest(d));
        days("37, drought", (x, d) -> x.drought(0, d));
        days("38, limit", (x, d) -> x.limit(0, d));
        days("41, worst", (x, d) -> x.worst(d));
        days("42, lot", (x, d) -> x.lot(0, 1, d, 0));
        sentence = "a DAY is refused without METERS too";
        WheelTown none = new WheelTown();
        for (int day : new int[] {-1, 730}) {
            due("next", none.next(day), -2);
            due("change", none.change(0, day), -2);
            due("loudest", none.loudest(day), -2);
            due("drought", none.drought(0, day), -2);
            due("limit", none.limit(0, day), -2);
            due("worst", none.worst(day), -2);
        }
        sentence = "without METERS";
        due("next", none.next(729), NONE);
        due("change", none.change(99999, 729), 0);
        due("loudest", none.loudest(729), NONE);
        due("drought", none.drought(0, 729), 0);
        due("limit", none.limit(0, 729), 9999);
        due("worst", none.worst(729), NONE);
        due("lot", none.lot(0, 1, 0, 0), -2);
        due("lot", none.lot(0, 0, 0, 0), -2);
    }

    /** All READINGS that spans from DAY 1 up to the last DAY need, and at its ends. */
    private static WheelTown spanned() {
        WheelTown x = of(BASE);
        for (int m = 0; m < 3; m++) {
            for (int day : new int[] {0, 1, 363, 364, 365, 727, 728, 729}) {
                x.read(m, day, NONE);
            }
        }
        return x;
    }

    private static void spans(String name, int refusal, SpanCall call) {
        sentence = name;
        WheelTown x = spanned();
        int[][] right = {{1, 2}, {1, 730}, {364, 365}, {365, 366}, {366, 730}, {728, 729}, {729, 730}};
        for (int[] span : right) {
            taken("DAYS " + span[0] + " .. " + span[1], call.of(x, 0, span[0], span[1]), refusal);
        }
        int[][] none = {{1, 1}, {2, 1}, {730, 730}, {730, 731}, {729, 731}, {729, 729}, {729, 728}, {0, 0}, {-1, 1},
            {-1, 0}, {1, 0}, {LOW, 1}, {1, LOW}, {1, FAR}, {FAR, 1}, {FAR, FAR}, {LOW, FAR}, {FAR, LOW}, {LOW, LOW},
            {0, -1}, {731, 732}, {365, 364}, {365, 365}};
        for (int[] span : none) {
            refused(x, "DAYS " + span[0] + " .. " + span[1], () -> call.of(x, 0, span[0], span[1]), refusal);
        }
        for (int meter : new int[] {-1, 3, 12, LOW, FAR, 32}) {
            refused(x, "METER " + meter, () -> call.of(x, meter, 1, 2), refusal);
        }
        WheelTown empty = new WheelTown();
        refused(empty, "METER 0 of none", () -> call.of(empty, 0, 1, 2), refusal);
    }

    private static void sweepSpans() {
        for (int what = 0; what < 2; what++) {
            int w = what;
            spans("15, balance, what " + w, -2, (x, m, from, to) -> x.balance(m, from, to, w));
            spans("16, lost, what " + w, NOTHING, (x, m, from, to) -> x.lost(m, from, to, w));
            spans("31, owed, what " + w, NOTHING, (x, m, from, to) -> x.owed(m, from, to, w));
        }
        for (int what = 0; what < 3; what++) {
            int w = what;
            spans("46, share, what " + w, -2, (x, m, from, to) -> x.share(m, from, to, w));
        }
        spans("30, billed", -2, (x, m, from, to) -> x.billed(m, from, to));
        spans("45, appeal", NOTHING, (x, m, from, to) -> x.appeal(m, from, to));
        sentence = "to the last DAY";
        // METER 0 uses 10 of 87 each DAY; METERS 1 and 2 count 40 and 10 of 50 and 20
        WheelTown last = spanned();
        for (int from = 728; from <= 729; from++) {
            for (int what = 0; what < 2; what++) {
                due("lost from " + from, last.lost(0, from, 730, what), (730 - from) * (87 - 10 - 40 - 10));
                due("balance from " + from, last.balance(0, from, 730, what), (730 - from) * 87);
            }
            due("appeal from " + from, last.appeal(0, from, 730), 0);
            due("appeal of METER 1 from " + from, last.appeal(1, from, 730), from == 728 ? 64 - 68 : 56 - 58);
        }
        sentence = "DAYS 0 .. 1 are some";
        WheelTown x = spanned();
        due("balance(0, 0, 1, 0)", x.balance(0, 0, 1, 0), 0);
        // 33,044 and 33,294 litres in between went over its end three times each
        due("balance(0, 0, 730, 0)", x.balance(0, 0, 730, 0), 180 + 3044 + 87 + 87 + 3294 + 87 + 87);
        due("balance(0, 0, 1, 1)", x.balance(0, 0, 1, 1), NONE);
        due("billed(0, 0, 1)", x.billed(0, 0, 1), NONE);
        due("share(0, 0, 1, 0)", x.share(0, 0, 1, 0), NONE);
    }

    private static void range(String name, int least, int greatest, int refusal, OneCall call) {
        sentence = name;
        taken("" + least, call.of(full(), least), refusal);
        taken("" + greatest, call.of(full(), greatest), refusal);
        WheelTown x = full();
        for (long n : new long[] {least - 1L, least - 2L, greatest + 1L, greatest + 2L, LOW, FAR}) {
            if (n >= LOW && n <= FAR && (n < least || n > greatest)) {
                refused(x, "" + n, () -> call.of(x, (int) n), refusal);
            }
        }
    }

    private static void sweepWhats() {
        range("6, flow, what", 0, 3, -2, (x, n) -> x.flow(0, 0, n));
        range("9, reading, sort", 0, 2, -2, (x, n) -> x.reading(1, 9, 0, n));
        range("12, told, i", 0, 6, NONE, (x, n) -> x.told(n, 2));
        range("12, told, what", 0, 3, NONE, (x, n) -> x.told(1, n));
        range("13, readings, what", 0, 1, -2, (x, n) -> x.readings(0, n));
        range("15, balance, what", 0, 1, -2, (x, n) -> x.balance(0, 1, 3, n));
        range("16, lost, what", 0, 1, NOTHING, (x, n) -> x.lost(0, 1, 3, n));
        range("31, owed, what", 0, 1, NOTHING, (x, n) -> x.owed(0, 1, 3, n));
        range("46, share, what", 0, 2, -2, (x, n) -> x.share(0, 1, 3, n));
        range("39, errors, sort", 0, 2, -2, (x, n) -> x.errors(n, 0));
        range("39, errors, what", 0, 3, -2, (x, n) -> x.errors(0, n));
        range("47, garden, YEAR", 0, 1, -2, (x, n) -> x.garden(1, n));
        range("29, bill, YEAR", 0, 1, -2, (x, n) -> x.bill(1, n));
        range("52, count, what", 0, 6, NONE, (x, n) -> x.count(n));
        range("53, keep", 0, 2, -2, (x, n) -> x.keep(n));
        range("54, back", 0, 2, -2, (x, n) -> x.back(n));
        range("22, leak, what", 0, 3, NONE, (x, n) -> leaking().leak(n));
        range("44, bursts, i", 0, FAR, -2, (x, n) -> x.bursts(0, n));
        range("14, counted, i", 0, FAR, -2, (x, n) -> x.counted(0, n));
        sentence = "5, fault, what";
        WheelTown x = full();
        x.town();
        due("fault(0)", x.fault(0), 1);
        due("fault(1)", x.fault(1), 0);
        for (int what : new int[] {2, 3, -1, LOW, FAR}) {
            refused(x, "fault(" + what + ")", () -> x.fault(what), NONE);
        }
    }

    private static WheelTown leaking() {
        return of("meter use 0 digits 6 age 0 at 0 0;meter below 0 use 0 digits 6 age 0 at 0 0;");
    }

    private static void sweepAmounts() {
        range("11, undo", 0, 7, -2, (x, n) -> x.undo(n));
        range("9, reading, WHEEL of 4 DIGITS", 0, 9999, -2, (x, n) -> x.reading(0, 9, n, 0));
        range("9, reading, WHEEL of 3 DIGITS", 0, 999, -2, (x, n) -> x.reading(1, 9, n, 0));
        range("10, read, swapped of 4 DIGITS", NONE, 2, -2, (x, n) -> x.read(0, 9, n));
        range("10, read, swapped of 3 DIGITS", NONE, 1, -2, (x, n) -> x.read(1, 9, n));
        range("26, walk", 0, 7, -2, (x, n) -> x.walk(n));
        range("26, walk of twelve", 0, 4095, -2, (x, n) -> twelve().walk(n));
        range("27, step", 0, 7, -2, (x, n) -> x.step(n, 0));
        range("27, step of twelve", 0, 4095, -2, (x, n) -> twelve().step(n, 0));
        range("28, round, minutes", 0, 9999, -2, (x, n) -> x.round(n, 0));
        range("29, bill, litres", 0, 1000000, -2, (x, n) -> x.bill(n, 0));
        range("32, change, pence", 0, 99999, -2, (x, n) -> x.change(n, 0));
        range("37, drought, litres", 0, 9999, -2, (x, n) -> x.drought(n, 0));
        range("38, limit, sum", 0, 999999, -2, (x, n) -> x.limit(n, 0));
        range("42, lot, seed", 0, 2000000000, -2, (x, n) -> x.lot(n, 1, 0, 0));
        range("42, lot, n", 1, 3, -2, (x, n) -> x.lot(0, n, 0, 0));
        range("42, lot, n of twelve", 1, 12, -2, (x, n) -> twelve().lot(0, n, 0, 0));
        range("42, lot, bound", 0, 9999, -2, (x, n) -> x.lot(0, 1, 0, n));
    }

    private static void sweepSlots() {
        range("55, row, SLOT", 0, 3, -2, (x, n) -> x.row(n, 0, 1));
        range("55, row, WIDTH", 0, 3, -2, (x, n) -> x.row(0, n, 1));
        range("55, row, n above 60", LOW, 60, -2, (x, n) -> x.row(0, 0, n));
        range("55, row, n below 0", 0, FAR, -3, (x, n) -> x.row(0, 0, n));
        range("56, write, SLOT", 0, 3, -2, (x, n) -> x.write(n, 0, 1));
        range("56, write, i", 0, 3, -7, (x, n) -> x.write(0, n, 1));
        range("56, write, i of two", 0, 1, -7, (x, n) -> x.write(1, n, 1));
        range("51, judge, SLOT", 0, 3, -2, (x, n) -> x.judge(n, 0, 0));
        range("57, paste, from SLOT", 0, 3, -2, (x, n) -> x.paste(n, 0, 0, 0, 0));
        range("57, paste, to SLOT", 0, 3, -2, (x, n) -> x.paste(0, 0, n, 0, 0));
        range("57, paste, i, one", 0, 3, -7, (x, n) -> x.paste(0, n, 0, 0, 1));
        range("57, paste, i, two", 0, 2, -7, (x, n) -> x.paste(0, n, 0, 0, 2));
        range("57, paste, i, none", 0, 4, -7, (x, n) -> x.paste(0, n, 0, 0, 0));
        range("57, paste, k, one", 0, 3, -7, (x, n) -> x.paste(0, 0, 0, n, 1));
        range("57, paste, k, two", 0, 2, -7, (x, n) -> x.paste(0, 0, 0, n, 2));
        range("57, paste, k, none", 0, 4, -7, (x, n) -> x.paste(0, 0, 0, n, 0));
        range("57, paste, n", 0, 4, -7, (x, n) -> x.paste(0, 0, 0, 0, n));
        range("57, paste, n from 1", 0, 3, -7, (x, n) -> x.paste(0, 1, 0, 0, n));
        range("57, paste, n to 1", 0, 3, -7, (x, n) -> x.paste(0, 0, 0, 1, n));
    }

    // ---- Terms II

    private static void daysAndSummers() {
        sentence = "II, DAY modulo 365 is 150 .. 239";
        WheelTown x = of("meter use 3 summer 100 digits 6 age 0 at 0 0;");
        for (int day = 0; day < 730; day++) {
            int of = day % 365;
            due("flow(0, " + day + ", 0)", x.flow(0, day, 0), of < 150 || of > 239 ? 3 : 103);
        }
        sentence = "II, empty then (from, to the second D, both too)";
        int[][] spans = {{0, 0}, {729, 729}, {364, 365}, {150, 239}, {149, 240}, {0, 729}, {600, 610}};
        for (int[] span : spans) {
            x = of("meter use 3 summer 100 digits 6 age 0 at 0 0;meter below 0 use 5 digits 6 age 0 at 0 0;"
                    + "empty 0 from " + span[0] + " to " + span[1] + ";");
            for (int day = Math.max(0, span[0] - 2); day <= Math.min(729, span[1] + 2); day++) {
                int of = day % 365;
                boolean isEmpty = day >= span[0] && day <= span[1];
                int own = isEmpty ? 0 : of < 150 || of > 239 ? 3 : 103;
                due("OWN USE on " + day, x.flow(0, day, 0), own);
                due("through on " + day, x.flow(0, day, 1), own + 5);
                due("of the one below on " + day, x.flow(1, day, 0), 5);
            }
            due("vacant", x.vacant(0), span[1] - span[0] + 1);
        }
        manyChanges();
        sentence = "II, of each LEAK its rate, from its DAY on; of each FLUSH its litres, on its DAY";
        for (int day : new int[] {0, 1, 364, 365, 729}) {
            x = of("meter use 0 digits 6 age 0 at 0 0;meter below 0 use 0 digits 6 age 0 at 0 0;"
                    + "leak 1 rate 10 since " + day + ";flush 1 litres 1000 on " + day + ";");
            for (int d = Math.max(0, day - 2); d <= Math.min(729, day + 2); d++) {
                int ahead = d < day ? 0 : d == day ? 1010 : 10;
                due("flow(1, " + d + ", 2)", x.flow(1, d, 2), ahead);
                due("flow(0, " + d + ", 1)", x.flow(0, d, 1), ahead);
                due("flow(1, " + d + ", 1)", x.flow(1, d, 1), 0);
                due("flow(1, " + d + ", 3)", x.flow(1, d, 3), ahead);
                due("flow(0, " + d + ", 2), without a PIPE", x.flow(0, d, 2), 0);
            }
        }
    }

    /** As many changes as a TOWN can tell of, each on a DAY of its own, the last of them on the last DAYS. */
    private static void manyChanges() {
        sentence = "II, six LEAKS, FLUSHES and EMPTIES, and both summers";
        int[] firsts = {0, 100, 300, 400, 610, 688};
        StringBuilder text = new StringBuilder("meter use 1 summer 500 digits 6 age 0 at 0 0;"
                + "meter below 0 use 100 digits 6 age 0 at 0 0;");
        for (int first : firsts) {
            text.append("leak 1 rate 1 since ").append(first + 1).append(';');
            text.append("flush 1 litres 1000 on ").append(first + 11).append(';');
            text.append("empty 1 from ").append(first + 31).append(" to ").append(first + 40).append(';');
        }
        WheelTown x = of(text.toString());
        int turns = 0;
        for (int day = 0; day < 730; day++) {
            int of = day % 365;
            int through = of >= 150 && of < 240 ? 501 : 1;
            boolean isEmpty = false;
            for (int first : firsts) {
                through += day >= first + 1 ? 1 : 0;
                through += day == first + 11 ? 1000 : 0;
                isEmpty |= day >= first + 31 && day <= first + 40;
            }
            through += isEmpty ? 0 : 100;
            turns += through;
            due("flow(0, " + day + ", 1)", x.flow(0, day, 1), through);
            due("wheel(0, " + day + ")", x.wheel(0, day), turns);
        }
    }

    // ---- Terms III

    private static void turnsAndWheels() {
        sentence = "III, crawl (age: as told, in YEAR 1 one more)";
        for (int age : new int[] {0, 1, 39, 40}) {
            WheelTown x = of("meter use 100 digits 6 age " + age + " at 0 0 crawl;");
            due("DAY 0, age " + age, x.turned(0, 0), 100 - age);
            due("DAY 364, age " + age, x.turned(0, 364), 100 - age);
            due("DAY 365, age " + age, x.turned(0, 365), 99 - age);
            due("DAY 729, age " + age, x.turned(0, 729), 99 - age);
            due("WHEEL, age " + age, x.wheel(0, 365), 365 * (100 - age) + 99 - age);
        }
        sentence = "III, cut";
        int[] uses = {0, 1, 2, 3, 4, 5, 9, 10, 99, 100, 455, 454, 456, 999};
        for (int use : uses) {
            due("half of " + use, turns(use, "half"), use / 2);
            due("double of " + use, turns(use, "double"), 2 * use);
            due("old of " + use, turns(use, "old"), (int) (use / 4.55 + 1e-9));
            due("backward of " + use, turns(use, "backward"), -use);
            due("stuck of " + use, turns(use, "stuck"), 0);
            due("right of " + use, turns(use, ""), use);
        }
        due("4 by 4.55", turns(4, "old"), 0);
        due("5 by 4.55", turns(5, "old"), 1);
        due("10 of 9, 0.9, cut", of("meter use 9 digits 3 age 10 at 0 0 crawl;").turned(0, 0), 9);
        due("10 of 10, 1", of("meter use 10 digits 3 age 10 at 0 0 crawl;").turned(0, 0), 9);
        due("10 of 19, 1.9, cut", of("meter use 19 digits 3 age 10 at 0 0 crawl;").turned(0, 0), 18);
        sentence = "III, modulo 10 to the DIGITS (0 or above)";
        int tens = 1000;
        for (int digits = 3; digits <= 6; digits++) {
            for (int start : new int[] {tens - 2, tens - 1, 0, 999999, tens % 1000000}) {
                WheelTown x = of("meter use 1 digits " + digits + " start " + start + " age 0 at 0 0;"
                        + "meter use 1 digits " + digits + " start " + start + " age 0 at 0 0 backward;");
                for (int day = 0; day < 4; day++) {
                    due("start " + start + ", DAY " + day, x.wheel(0, day), (start + day + 1) % tens);
                    due("backward from " + start + ", DAY " + day, x.wheel(1, day),
                            (start + tens - day - 1) % tens);
                }
            }
            tens *= 10;
        }
        due("over its end again and again", of("meter use 999 digits 3 age 0 at 0 0;").wheel(0, 729), 270);
        due("backward so", of("meter use 999 digits 3 age 0 at 0 0 backward;").wheel(0, 729), 730);
        due("just over its end", of("meter use 100 digits 3 age 0 at 0 0;").wheel(0, 9), 0);
        due("just ahead of it", of("meter use 100 digits 3 start 999 age 0 at 0 0;").wheel(0, 9), 999);
        due("backward, just 0", of("meter use 1 digits 3 start 1 age 0 at 0 0 backward;").wheel(0, 0), 0);
        due("backward, below", of("meter use 1 digits 3 start 0 age 0 at 0 0 backward;").wheel(0, 0), 999);
        mostThrough();
    }

    private static int turns(int use, String fault) {
        return of("meter use " + use + " digits 3 age 0 at 0 0 " + fault + ";").turned(0, 0);
    }

    /** The most that can go through: twelve METERS, six LEAKS and six FLUSHES, all at once. */
    private static void mostThrough() {
        sentence = "III, the most that can go through";
        StringBuilder text = new StringBuilder("meter use 999summer 999digits 6age 40at 0 0double;");
        for (int m = 1; m < 12; m++) {
            text.append("meter below ").append(m - 1).append("use 999summer 999digits 6age 0at 9 9;");
        }
        for (int i = 0; i < 6; i++) {
            text.append("leak 11rate 999since 0;flush 11litres 9999on 200;");
        }
        WheelTown x = of(text.toString());
        int through = 12 * 1998 + 6 * 999 + 6 * 9999;
        due("through METER 0", x.flow(0, 200, 1), through);
        due("through METER 10", x.flow(10, 200, 1), 2 * 1998 + 6 * 999 + 6 * 9999);
        due("through METER 11", x.flow(11, 200, 1), 1998);
        due("both together", x.flow(11, 200, 3), 1998 + 6 * 999 + 6 * 9999);
        due("TURNS", x.turned(0, 200), 2 * through);
        due("OFF", x.off(0, 200), 1000);
        int all = 2 * (730 * (12 * 999 + 6 * 999) + 180 * 12 * 999 + 6 * 9999);
        due("WHEEL", x.wheel(0, 729), all % 1000000);
        due("night", x.night(0, 729), 6 * 999);
        due("WON", x.won(0, 200), 0);
    }

    // ---- READINGS

    private static void readingsTold() {
        sentence = "9, -5: no later than the latest of that METER";
        WheelTown x = of(BASE);
        due("the first", x.reading(0, 100, 0, 1), 0);
        refused(x, "a DAY ahead", () -> x.reading(0, 99, 0, 1), -5);
        refused(x, "the same DAY", () -> x.reading(0, 100, 0, 0), -5);
        refused(x, "the same DAY, read", () -> x.read(0, 100, NONE), -5);
        refused(x, "the first DAY, read", () -> x.read(0, 0, 0), -5);
        due("the next DAY", x.reading(0, 101, 0, 2), 1);
        refused(x, "no later than a guess", () -> x.reading(0, 101, 0, 0), -5);
        due("of another METER", x.reading(1, 0, 0, 0), 2);
        due("the last DAY", x.read(0, 729, NONE), 3);
        refused(x, "none is later", () -> x.read(0, 729, NONE), -5);
        refused(x, "-2 ahead of -5: DAY", () -> x.reading(0, 730, 0, 0), -2);
        refused(x, "-2 ahead of -5: WHEEL", () -> x.reading(0, 5, 10000, 0), -2);
        refused(x, "-2 ahead of -5: sort", () -> x.reading(0, 5, 0, 3), -2);
        refused(x, "-2 ahead of -5: swapped", () -> x.read(0, 5, 3), -2);
        sentence = "9, WHEEL 0 to what its DIGITS can show";
        int tens = 1000;
        for (int digits = 3; digits <= 6; digits++) {
            WheelTown y = of("meter use 1 digits " + digits + " age 0 at 0 0;");
            int most = tens - 1;
            due("0", y.reading(0, 0, 0, 0), 0);
            due("the most", y.reading(0, 1, most, 1), 1);
            refused(y, "more", () -> y.reading(0, 2, most + 1, 0), -2);
            refused(y, "below 0", () -> y.reading(0, 2, -1, 0), -2);
            due("told", y.told(1, 2), most);
            sentence = "10, neighbouring digits, place 0 with 1, ..";
            due("the last place", y.read(0, 2, digits - 2), 2);
            int last = digits - 1;
            refused(y, "beyond it", () -> y.read(0, 3, last), -2);
            refused(y, "below NONE", () -> y.read(0, 3, -2), -2);
            due("3 has gone up one place at most", y.told(2, 2), 3);
            tens *= 10;
        }
        swaps();
        hundredAndTwenty();
        undone();
        countedEdges();
    }

    private static void swaps() {
        sentence = "10, swapped";
        WheelTown x = of("meter use 1 digits 6 start 123455 age 0 at 0 0;");
        int[] want = {123456, 123475, 123548, 124359, 132460, 213461};
        for (int i = 0; i < 6; i++) {
            x.read(0, i, i - 1);
            due((123456 + i) + ", place " + (i - 1), x.told(i, 2), want[i]);
        }
        x = of("meter use 1 digits 3 start 98 age 0 at 0 0;");
        x.read(0, 0, 1);
        x.read(0, 1, 0);
        x.read(0, 2, 1);
        due("099, place 1", x.told(0, 2), 909);
        due("100, place 0: two alike", x.told(1, 2), 100);
        due("101, place 1", x.told(2, 2), 11);
    }

    private static void hundredAndTwenty() {
        sentence = "9, -3: there are 120";
        WheelTown x = of(BASE);
        for (int i = 0; i < 119; i++) {
            x.reading(0, i, 0, 0);
        }
        due("the 120th", x.reading(1, 0, 0, 2), 119);
        refused(x, "the 121st", () -> x.reading(2, 0, 0, 0), -3);
        refused(x, "the 121st, read", () -> x.read(2, 0, NONE), -3);
        refused(x, "-3 ahead of -5", () -> x.reading(0, 0, 0, 0), -3);
        refused(x, "-2 ahead of -3: METER", () -> x.reading(3, 0, 0, 0), -2);
        refused(x, "-2 ahead of -3: swapped", () -> x.read(2, 0, 3), -2);
        due("the last one", x.told(119, 0), 1);
        due("none behind it", x.told(120, 0), NONE);
        due("one is gone", x.undo(1), 119);
        due("the 120th by read", x.read(2, 0, NONE), 119);
        refused(x, "the 121st", () -> x.read(2, 1, NONE), -3);
        due("all are gone", x.undo(120), 0);
        due("the first", x.read(2, 0, NONE), 0);
    }

    private static void undone() {
        sentence = "11, not so many, n is below 0";
        WheelTown none = of(BASE);
        due("none of none", none.undo(0), 0);
        refused(none, "one of none", () -> none.undo(1), -2);
        WheelTown x = full();
        refused(x, "eight of seven", () -> x.undo(8), -2);
        refused(x, "-1", () -> x.undo(-1), -2);
        refused(x, "LOW", () -> x.undo(LOW), -2);
        refused(x, "FAR", () -> x.undo(FAR), -2);
        leavesAll(x, "none", () -> x.undo(0), 7);
        due("all", x.undo(7), 0);
        due("the same DAY again", x.read(0, 0, NONE), 0);
        sentence = "12, NONE for others";
        due("the only one", x.told(0, 0), 0);
        due("the next", x.told(1, 0), NONE);
        sentence = "13, no guesses, or are";
        x.reading(0, 1, 0, 1);
        x.reading(0, 2, 0, 2);
        due("feet, postcards", x.readings(0, 0), 2);
        due("guesses", x.readings(0, 1), 1);
        due("none", x.readings(1, 0), 0);
        due("none", x.readings(1, 1), 0);
    }

    private static void countedEdges() {
        sentence = "14, over its end, if the later WHEEL is the lesser";
        WheelTown x = of("meter use 1 digits 3 age 0 at 0 0;");
        due("none", x.counted(0, 0), NONE);
        x.reading(0, 0, 999, 0);
        due("one", x.counted(0, 0), NONE);
        x.reading(0, 1, 0, 2);
        due("one and a guess", x.counted(0, 0), NONE);
        x.reading(0, 2, 998, 1);
        due("one less", x.counted(0, 0), 999);
        due("not so many", x.counted(0, 1), NONE);
        x.reading(0, 3, 999, 0);
        x.reading(0, 4, 999, 0);
        x.reading(0, 5, 0, 0);
        x.reading(0, 6, 999, 0);
        int[] want = {999, 1, 0, 1, 999, NONE, NONE};
        for (int i = 0; i < want.length; i++) {
            due("counted(0, " + i + ")", x.counted(0, i), want[i]);
        }
        due("counted(0, 119)", x.counted(0, 119), NONE);
        due("counted(0, 120)", x.counted(0, 120), NONE);
        due("counted(0, FAR)", x.counted(0, FAR), NONE);
        due("counted(0, -1)", x.counted(0, -1), -2);
        due("counted(0, LOW)", x.counted(0, LOW), -2);
        x = of("meter use 1 digits 6 age 0 at 0 0;");
        x.reading(0, 0, 999999, 0);
        x.reading(0, 729, 0, 0);
        due("6 DIGITS", x.counted(0, 0), 1);
    }

    // ---- Terms IV

    private static void balances() {
        sentence = "IV, BALANCE";
        WheelTown x = of("meter use 10 digits 6 age 0 at 0 0;meter below 0 use 4 digits 6 age 0 at 0 0;");
        for (int day : new int[] {10, 20, 30}) {
            x.read(0, day, NONE);
            x.read(1, day, NONE);
        }
        // from, to, least, greatest
        int[][] rows = {
            {11, 21, 140, 140}, {11, 31, 280, 280}, {12, 31, 140, 280}, {11, 30, 140, 280}, {10, 31, 280, NONE},
            {11, 32, 280, NONE}, {12, 30, 0, 280}, {12, 21, 0, 140}, {11, 20, 0, 140}, {21, 22, 0, 140},
            {20, 21, 0, 140}, {11, 12, 0, 140}, {10, 12, 0, NONE}, {30, 31, 0, 140}, {31, 32, 0, NONE},
            {0, 730, 280, NONE}, {729, 730, 0, NONE}, {0, 1, 0, NONE}, {10, 11, 0, NONE}, {0, 21, 140, NONE},
            {22, 730, 0, NONE}, {21, 730, 140, NONE}};
        for (int[] row : rows) {
            due("least of " + row[0] + " .. " + row[1], x.balance(0, row[0], row[1], 0), row[2]);
            due("greatest of " + row[0] + " .. " + row[1], x.balance(0, row[0], row[1], 1), row[3]);
        }
        sentence = "IV, LOST";
        due("least", x.lost(0, 11, 21, 0), 140 - 100 - 40);
        due("least", x.lost(0, 12, 31, 0), 140 - 190 - 80);
        due("greatest", x.lost(0, 12, 31, 1), 280 - 190 - 40);
        due("greatest, the least of those below being 0", x.lost(0, 12, 30, 1), 280 - 180);
        due("least, 0 of its own", x.lost(0, 12, 30, 0), -180 - 80);
        due("greatest can't be told", x.lost(0, 10, 31, 1), NOTHING);
        due("greatest of one below can't be told", x.lost(0, 10, 31, 0), NOTHING);
        due("none below: the least is always told", x.lost(1, 10, 31, 0), 80 - 84);
        due("none below: the greatest is not", x.lost(1, 10, 31, 1), NOTHING);
        due("without READINGS", of(BASE).lost(1, 1, 2, 0), -50);
        due("without READINGS", of(BASE).lost(1, 1, 2, 1), NOTHING);
        sentence = "IV, those that are no guesses";
        WheelTown y = of(BASE);
        y.reading(0, 0, 5, 2);
        y.reading(0, 9, 7, 2);
        due("guesses alone", y.balance(0, 1, 10, 1), NONE);
        due("guesses alone", y.balance(0, 1, 10, 0), 0);
        y.reading(0, 19, 100, 1);
        due("one alone", y.balance(0, 20, 30, 1), NONE);
        due("one alone", y.balance(0, 10, 20, 0), 0);
        due("one alone, as both its ends", y.balance(0, 19, 21, 0), 0);
        y.reading(0, 20, 99, 0);
        due("over its end", y.balance(0, 20, 21, 1), 9999);
        due("over its end", y.balance(0, 20, 21, 0), 9999);
    }

    // ---- Terms V

    private static void faultsThatFit() {
        sentence = "17, 0: none; all without READINGS";
        WheelTown x = of("meter use 1 digits 3 age 0 at 0 0;meter use 0 digits 3 age 9 at 0 0;");
        due("without READINGS", x.fits(0), 127);
        x.reading(0, 0, 77, 2);
        due("by guesses alone", x.fits(0), 127);
        due("ways, without READINGS", x.ways(0), 6);
        x.reading(0, 1, 77, 0);
        due("none", x.fits(0), 0);
        due("ways: 3 does not", x.ways(0), NONE);
        x.read(1, 729, NONE);
        due("nothing goes through: all", x.fits(1), 127);
        sentence = "18, it can't be";
        due("fewest", x.fewest(), NONE);
        sentence = "19, 0: none";
        due("sets", x.sets(), 0);
        sentence = "20, none fits";
        due("alone(1)", x.alone(1), NONE);
        x.undo(2);
        sentence = "18, none at least";
        due("fewest", x.fewest(), 0);
        due("of no METERS", new WheelTown().fewest(), 0);
        sentence = "19, one choice";
        due("sets", x.sets(), 1);
        due("of no METERS", new WheelTown().sets(), 1);
        sentence = "18, all have one";
        WheelTown stuck = of(ONE.replace(";", " stuck;").repeat(12));
        for (int m = 0; m < 12; m++) {
            due("fewest", stuck.fewest(), m);
            stuck.read(m, 0, NONE);
        }
        due("fewest", stuck.fewest(), 12);
        millionChoices();
        sentence = "21, how many other than 3";
        WheelTown y = of("meter use 500 digits 3 age 2 at 0 0;meter use 7 digits 3 age 0 at 0 0;");
        y.reading(0, 0, 500, 0);
        due("0 and 3", y.fits(0), 9);
        due("one other", y.ways(0), 1);
        y.reading(1, 0, 993, 0);
        due("3 alone", y.fits(1), 8);
        due("none other", y.ways(1), 0);
        due("the only one", y.alone(1), 3);
        due("0, though 3 fits too", y.alone(0), 0);
    }

    /** Of use 1 four FAULTS other than 0 fit a WHEEL that is still 0 on DAY 499, of use 13 five. */
    private static void millionChoices() {
        sentence = "19, 1,000,000 at most";
        String four = "meter use 1 digits 3 age 0 at 0 0;";
        String five = "meter use 13 digits 3 age 8 at 0 0;";
        int[][] rows = {{5, 4, 800000}, {6, 3, 1000000}, {7, 2, 1000000}, {7, 1, 312500}, {12, 0, 1000000},
            {8, 0, 390625}, {0, 9, 262144}, {0, 10, 1000000}, {9, 0, 1000000}, {1, 1, 20}};
        for (int[] row : rows) {
            WheelTown x = of(five.repeat(row[0]) + four.repeat(row[1]));
            for (int m = 0; m < row[0] + row[1]; m++) {
                x.reading(m, 499, 0, 1);
                due("fits(" + m + ")", x.fits(m), m < row[0] ? 2 + 4 + 16 + 32 + 64 : 4 + 16 + 32 + 64);
            }
            due("sets of " + row[0] + " and " + row[1], x.sets(), row[2]);
            due("fewest", x.fewest(), row[0] + row[1]);
            due("several", x.alone(0), NONE);
        }
    }

    // ---- Terms VI

    private static void leak(String text, int[][] readings, int[] want) {
        WheelTown x = of(text);
        for (int[] reading : readings) {
            x.reading(reading[0], reading[1], reading[2], 0);
        }
        for (int what = 0; what < 4; what++) {
            due("leak(" + what + ")", x.leak(what), want[what]);
        }
    }

    private static void leaksSupposed() {
        String two = "meter use 0 digits 6 age 0 at 0 0;meter below 0 use 0 digits 6 age 0 at 0 0;";
        int[] none = {NONE, NONE, NONE, 0};
        sentence = "VI, of 1 .. 40 litres a day";
        leak(two, new int[][] {{0, 0, 1}}, new int[] {1, 1, 0, 1});
        leak(two, new int[][] {{0, 0, 40}}, new int[] {1, 40, 0, 1});
        leak(two, new int[][] {{0, 0, 41}}, none);
        leak(two, new int[][] {{0, 729, 0}}, none);
        sentence = "VI, since DAY 0, 60, .. 720";
        leak(two, new int[][] {{0, 59, 0}, {0, 60, 3}}, new int[] {1, 3, 60, 1});
        leak(two, new int[][] {{0, 58, 0}, {0, 59, 3}}, none);
        leak(two, new int[][] {{0, 60, 0}, {0, 61, 3}}, none);
        leak(two, new int[][] {{0, 719, 0}, {0, 720, 3}}, new int[] {1, 3, 720, 1});
        leak(two, new int[][] {{0, 719, 0}}, new int[] {1, 1, 720, 40});
        leak(two, new int[][] {{0, 720, 0}}, none);
        leak(two, new int[][] {{0, 718, 0}, {0, 719, 3}}, none);
        leak(two, new int[][] {{0, 729, 10}}, new int[] {1, 1, 720, 1});
        leak(two, new int[][] {{0, 729, 400}}, new int[] {1, 40, 720, 1});
        leak(two, new int[][] {{0, 729, 730 * 40}}, new int[] {1, 40, 0, 1});
        leak(two, new int[][] {{0, 659, 0}, {0, 660, 1}}, new int[] {1, 1, 660, 1});
        sentence = "VI, in place of all told ones (FLUSHES stay)";
        leak(two + "leak 1 rate 41 since 0;", new int[][] {{0, 0, 41}}, none);
        leak(two + "leak 1 rate 40 since 0;", new int[][] {{0, 0, 40}}, new int[] {1, 40, 0, 1});
        leak(two + "leak 1 rate 20 since 0;leak 1 rate 21 since 0;", new int[][] {{0, 0, 41}}, none);
        leak(two + "leak 1 rate 5 since 0;flush 1 litres 100 on 0;", new int[][] {{0, 0, 105}},
                new int[] {1, 5, 0, 1});
        leak(two + "leak 1 rate 5 since 0;flush 1 litres 100 on 0;", new int[][] {{0, 0, 100}},
                new int[] {1, 1, 60, 480});
        leak(two + "leak 1 rate 5 since 0;flush 1 litres 100 on 0;", new int[][] {{0, 0, 5}}, none);
        sentence = "VI, in the PIPE ahead of a METER told below another";
        leak("meter use 0 digits 6 age 0 at 0 0;", new int[][] {}, none);
        leak(two, new int[][] {}, new int[] {1, 1, 0, 520});
        leak(two.repeat(2), new int[][] {}, new int[] {1, 1, 0, 1040});
        leak(two + "meter below 1 use 0 digits 6 age 0 at 0 0;", new int[][] {{0, 0, 7}, {1, 0, 7}},
                new int[] {2, 7, 0, 1});
        leak(two + "meter below 0 use 0 digits 6 age 0 at 0 0;", new int[][] {{0, 0, 7}}, new int[] {1, 7, 0, 2});
        leak(two + "meter below 1 use 0 digits 6 age 0 at 0 0;", new int[][] {{0, 0, 7}, {1, 0, 6}}, none);
        sentence = "VI, as all READINGS of all METERS";
        leak(two + "meter use 5 digits 6 age 0 at 0 0;", new int[][] {{0, 0, 7}, {2, 0, 5}}, new int[] {1, 7, 0, 1});
        leak(two + "meter use 5 digits 6 age 0 at 0 0;", new int[][] {{0, 0, 7}, {2, 0, 6}}, none);
        leak(two, new int[][] {{0, 0, 7}, {1, 0, 1}}, none);
        sentence = "22, how many fit, over WHEELS' ends";
        // 10, 20, 30, 40 since 0; 25 since 60; all since 120 or later
        leak("meter use 0 digits 3 age 0 at 0 0;meter below 0 use 0 digits 3 age 0 at 0 0;",
                new int[][] {{0, 99, 0}}, new int[] {1, 1, 120, 4 + 1 + 40 * 11});
        sentence = "23, span";
        WheelTown x = of(two + "meter below 0 use 0 digits 6 age 0 at 0 0;");
        due("all", x.span(1), 39);
        due("no PIPE", x.span(0), NONE);
        x.reading(0, 719, 720, 0);
        // 720 litres: 1 since 0, 2 since 360, 3 since 480, 4 since 540, 6 since 600, 12 since 660
        due("1 .. 12", x.span(1), 11);
        due("how many", x.leak(3), 12);
        x.reading(2, 720, 1, 0);
        due("none fits", x.span(1), NONE);
        due("none fits", x.span(2), NONE);
        x.undo(2);
        x.reading(0, 0, 40, 0);
        due("one", x.span(2), 0);
        x.undo(1);
        due("all again, when it is gone", x.span(2), 39);
        x.reading(0, 0, 41, 0);
        due("none", x.span(2), NONE);
        due("none", x.leak(3), 0);
        x.undo(1);
        due("all again, when it is gone", x.leak(3), 2 * 520);
    }

    // ---- Terms VII

    private static void nextReadings() {
        sentence = "24, without a READING on that DAY or later";
        WheelTown x = of(ONE.repeat(2));
        due("the first of several", x.next(0), 0);
        x.reading(0, 10, 99, 2);
        due("ahead of it", x.next(9), 1);
        due("on that DAY", x.next(10), 1);
        due("behind it", x.next(11), 0);
        x.reading(1, 729, 0, 2);
        due("none ahead", x.next(10), NONE);
        due("METER 0", x.next(11), 0);
        x.reading(0, 729, 0, 2);
        due("none at all", x.next(729), NONE);
        due("none at all", x.next(0), NONE);
        x = of(ONE.repeat(2));
        x.reading(0, 0, 500, 0);
        due("none unlike, but another has some", x.next(1), 1);
        x.reading(1, 0, 500, 0);
        due("none unlike at all", x.next(1), 0);
        sentence = "25, how many unlike WHEELS";
        due("none fits", x.unlike(0, 5), 0);
        x = of("meter use 0 digits 3 age 5 at 0 0;meter use 100 digits 3 age 5 at 0 0;");
        due("all alike", x.unlike(0, 729), 1);
        due("all seven", x.unlike(1, 0), 7);
        // by 10 DAYS of 100, 0, -100 and 200 all are 0 again; 950 by crawl, 500 by half, 210 by old
        due("over their ends", x.unlike(1, 9), 4);
        x.reading(1, 0, 100, 0);
        due("one", x.unlike(1, 729), 1);
    }

    // ---- Terms VIII

    private static void walks() {
        sentence = "26, sets";
        WheelTown x = of(ONE + "meter use 1 digits 3 age 0 at 99 99;");
        due("no METERS of it", x.walk(0), 0);
        due("METER 0 alone", x.walk(1), 0);
        due("not back", x.walk(2), 198);
        due("METER 0 need not be in it", x.walk(3), 198);
        due("a set with a METER that is none", x.walk(4), -2);
        due("walk(5)", x.walk(5), -2);
        due("walk(LOW)", x.walk(LOW), -2);
        due("walk(FAR)", x.walk(FAR), -2);
        due("walk(-1)", x.walk(-1), -2);
        due("METER 0 is none", new WheelTown().walk(0), -2);
        due("METER 0 is none", new WheelTown().step(0, 0), -2);
        due("METER 0 is none", new WheelTown().round(0, 0), -2);
        sentence = "27, not so many";
        due("step(0, 0)", x.step(0, 0), NONE);
        due("step(1, 0)", x.step(1, 0), 0);
        due("step(1, 1)", x.step(1, 1), NONE);
        due("step(2, 0)", x.step(2, 0), 1);
        due("step(2, 1)", x.step(2, 1), NONE);
        due("step(3, 1)", x.step(3, 1), 1);
        due("step(3, 2)", x.step(3, 2), NONE);
        due("step(3, FAR)", x.step(3, FAR), NONE);
        due("step(3, -1)", x.step(3, -1), NONE);
        due("step(4, 0)", x.step(4, 0), -2);
        due("step(4, FAR)", x.step(4, FAR), -2);
        due("step(-1, 0)", x.step(-1, 0), -2);
        WheelTown same = twelve();
        for (int i = 0; i < 12; i++) {
            due("all at one place, step(4095, " + i + ")", same.step(4095, i), i);
            due("without METER 0, step(4094, " + i + ")", same.step(4094, i), i < 11 ? i + 1 : NONE);
        }
        due("step(4095, 12)", same.step(4095, 12), NONE);
        due("step(4096, 0)", same.step(4096, 0), -2);
        farApart();
        sentence = "28, so many minutes at most";
        due("one too few", x.round(197, 0), 1);
        due("just so many", x.round(198, 0), 3);
        due("9,999", x.round(9999, 0), 3);
        due("10,000", x.round(10000, 0), -2);
        due("none", x.round(0, 0), 1);
        x.reading(0, 0, 500, 0);
        due("METER 0 tells nothing", x.round(198, 0), 2);
        due("nobody tells anything in reach", x.round(197, 0), 0);
        x.reading(1, 0, 500, 0);
        due("nobody at all", x.round(9999, 0), 0);
        due("all at one place", twelve().round(0, 729), 4095);
        x = of(ONE + "meter use 1 digits 3 age 0 at 1 0;meter use 1 digits 3 age 0 at 0 1;");
        due("as many, as far: the least bits", x.round(1, 0), 3);
        due("all", x.round(3, 0), 7);
        due("not all", x.round(2, 0), 3);
    }

    /** In each corner one and then the other way round: the longest WALKS. */
    private static void farApart() {
        sentence = "VIII, the longest WALKS";
        StringBuilder text = new StringBuilder();
        int[][] corners = {{0, 0}, {99, 99}, {0, 99}, {99, 0}};
        for (int m = 0; m < 12; m++) {
            text.append("meter use 1 digits 3 age 0 at ").append(corners[m % 4][0]).append(' ')
                    .append(corners[m % 4][1]).append(';');
        }
        WheelTown x = of(text.toString());
        due("past all corners", x.walk(4095), 297);
        int[] order = {0, 4, 8, 2, 6, 10, 1, 5, 9, 3, 7, 11};
        for (int i = 0; i < 12; i++) {
            due("step(4095, " + i + ")", x.step(4095, i), order[i]);
        }
        due("one corner", x.walk(1 << 9), 198);
    }

    // ---- Terms IX

    private static void bills() {
        sentence = "IX, upto litres at most, beyond times what is above that";
        WheelTown x = of("tariff 0 standing 7 first 100 upto 50 beyond 1;tariff 1 standing 0 first 999 upto 0 beyond 500;");
        int[][] rows = {{0, 7}, {9, 7}, {10, 8}, {49, 11}, {50, 12}, {51, 12}, {1049, 12}, {1050, 13}, {1000000, 7 + 1004}};
        for (int[] row : rows) {
            due("bill(" + row[0] + ", 0)", x.bill(row[0], 0), row[1]);
        }
        due("upto 0", x.bill(1, 1), 0);
        due("upto 0", x.bill(2, 1), 1);
        due("upto 0", x.bill(1000000, 1), 500000);
        sentence = "29, -6: there is none";
        WheelTown none = of("tariff 0 standing 7 first 100 upto 50 beyond 1;");
        due("bill(0, 1)", none.bill(0, 1), -6);
        due("bill(1000000, 1)", none.bill(1000000, 1), -6);
        due("-2 ahead of -6", none.bill(1000001, 1), -2);
        due("-2 ahead of -6", none.bill(-1, 1), -2);
        due("bill(0, 2)", none.bill(0, 2), -2);
        billedEdges();
        owedEdges();
        sharedEdges();
    }

    private static void billedEdges() {
        String tariffs = "tariff 0 standing 100 first 0 upto 0 beyond 0;tariff 1 standing 200 first 0 upto 0 beyond 0;";
        sentence = "IX, by the tariff of the YEAR of DAY from";
        WheelTown x = of(ONE + tariffs);
        for (int day : new int[] {0, 363, 364, 365, 729}) {
            x.reading(0, day, day, 2);
        }
        due("from 364", x.billed(0, 364, 365), 100);
        due("from 365", x.billed(0, 365, 366), 200);
        due("from 1", x.billed(0, 1, 730), 100);
        due("from 366", x.billed(0, 366, 730), 200);
        sentence = "IX, it can't be told without both, or without a tariff";
        due("no READING at the end of DAY 1", x.billed(0, 2, 365), NONE);
        due("no READING at the end of DAY 1", x.billed(0, 1, 2), NONE);
        due("from DAY 0", x.billed(0, 0, 1), NONE);
        due("from DAY 0", x.billed(0, 0, 730), NONE);
        x = of(ONE + "tariff 1 standing 200 first 0 upto 0 beyond 0;");
        for (int day : new int[] {0, 364, 365}) {
            x.reading(0, day, day, 2);
        }
        due("no tariff of YEAR 0", x.billed(0, 1, 366), NONE);
        due("appeal", x.appeal(0, 1, 366), NOTHING);
        due("owed", x.owed(0, 1, 366, 1), NOTHING);
        due("that of YEAR 1", x.billed(0, 365, 366), 200);
        due("-2 ahead of NONE", x.billed(0, 366, 366), -2);
        sentence = "IX, COUNTED, over its end";
        x = of(ONE + "tariff 0 standing 0 first 999 upto 999999 beyond 0;");
        x.reading(0, 0, 999, 2);
        x.reading(0, 1, 0, 0);
        x.reading(0, 2, 999, 1);
        x.reading(0, 3, 999, 1);
        due("1 litre, 0.999 pence, cut", x.billed(0, 1, 2), 0);
        due("999 litres", x.billed(0, 2, 3), 998);
        due("from the one to the other at once", x.billed(0, 1, 4), 0);
        due("0 litres", x.billed(0, 3, 4), 0);
        due("appeal, by the YEAR of from", x.appeal(0, 2, 3), 998);
    }

    private static void owedEdges() {
        sentence = "IX, OWED";
        WheelTown x = of(ONE + "tariff 0 standing 0 first 0 upto 0 beyond 500;");
        x.reading(0, 0, 0, 0);
        x.reading(0, 9, 100, 2);
        due("least: the greatest BALANCE can't be told", x.owed(0, 1, 10, 0), NOTHING);
        due("greatest: the least BALANCE is 0", x.owed(0, 1, 10, 1), 50);
        x.reading(0, 19, 20, 0);
        due("least", x.owed(0, 1, 10, 0), 50 - 10);
        due("greatest", x.owed(0, 1, 10, 1), 50);
        due("billed by both that are no guesses", x.owed(0, 1, 20, 0), 0);
        due("billed by both that are no guesses", x.owed(0, 1, 20, 1), 0);
        due("below 0", x.owed(0, 10, 20, 0), 460 - 10);
        due("BILLED can't be told", x.owed(0, 1, 9, 0), NOTHING);
        due("BILLED can't be told", x.owed(0, 1, 9, 1), NOTHING);
        due("from DAY 0", x.owed(0, 0, 10, 1), NOTHING);
        WheelTown y = of(ONE + "tariff 0 standing 0 first 0 upto 0 beyond 999;");
        y.reading(0, 0, 0, 1);
        y.reading(0, 1, 5, 2);
        y.reading(0, 2, 999, 1);
        due("owed, below 0", y.owed(0, 1, 2, 0), 4 - 998);
        sentence = "45, appeal";
        due("billed less what went through", y.appeal(0, 1, 2), 4);
        due("it can't be told", y.appeal(0, 1, 4), NOTHING);
        due("from DAY 0", y.appeal(0, 0, 2), NOTHING);
    }

    private static void sharedEdges() {
        sentence = "46, -2: it has no court";
        String tariff = "tariff 0 standing 100 first 0 upto 0 beyond 0;";
        WheelTown x = of(ONE + ONE + "court 1 homes 99 landlord 100;" + tariff);
        due("no court ahead of NONE", x.share(0, 1, 2, 0), -2);
        due("it can't be told", x.share(1, 1, 2, 0), NONE);
        due("what 3 ahead of NONE", x.share(1, 1, 2, 3), -2);
        for (int m = 0; m < 2; m++) {
            x.read(m, 0, NONE);
            x.read(m, 1, NONE);
        }
        due("no court", x.share(0, 1, 2, 0), -2);
        int[] all = {0, 100, 0};
        int[][] courts = {{99, 100}, {99, 0}, {1, 0}, {1, 100}, {3, 10}, {99, 1}, {99, 2}, {7, 33}};
        int[][] want = {all, {1, 0, 1}, {100, 0, 0}, all, {30, 10, 0}, {1, 1, 0}, {0, 2, 98}, {9, 33, 4}};
        sentence = "46, share";
        for (int i = 0; i < courts.length; i++) {
            WheelTown y = of(ONE + "court 0 homes " + courts[i][0] + " landlord " + courts[i][1] + ";" + tariff);
            y.read(0, 0, NONE);
            y.read(0, 1, NONE);
            for (int what = 0; what < 3; what++) {
                due(courts[i][0] + " homes, landlord " + courts[i][1] + ", what " + what, y.share(0, 1, 2, what),
                        want[i][what]);
            }
        }
    }

    // ---- Terms X

    private static void changes() {
        sentence = "X, 200 pence, and 100 for each of its DIGITS";
        for (int digits = 3; digits <= 6; digits++) {
            WheelTown x = of("meter use 1 digits " + digits + " age 0 at 0 0 stuck;");
            due("one penny too few", x.change(199 + 100 * digits, 0), 0);
            due("just enough", x.change(200 + 100 * digits, 0), 1);
        }
        WheelTown all = of("meter use 1 digits 6 age 0 at 0 0 stuck;".repeat(12));
        due("all but one", Integer.bitCount(all.change(9599, 0)), 11);
        due("the least bits", all.change(9599, 0), 2047);
        due("all", all.change(9600, 0), 4095);
        due("99,999", all.change(99999, 729), 4095);
        due("0 pence", all.change(0, 0), 0);
        due("799 pence", all.change(799, 0), 0);
        due("800 pence", all.change(800, 0), 1);
        due("1,600 pence", all.change(1600, 0), 3);
        sentence = "X, WON, 0 at least";
        int[] won = {0, 365, 730, 365, 0, 365};
        String[] faults = {"", "stuck", "backward", "half", "double", "old"};
        for (int i = 0; i < faults.length; i++) {
            WheelTown x = of("meter use 1 digits 3 age 0 at 0 0 " + faults[i] + ";empty 0 from 1 to 1;");
            due("won by " + faults[i], x.won(0, 0), won[i]);
            due("nothing goes through, " + faults[i], x.won(0, 1), 0);
            due("changed for its WON alone, " + faults[i], x.change(99999, 0), won[i] > 0 ? 1 : 0);
            due("nothing WON, " + faults[i], x.change(99999, 1), 0);
        }
        WheelTown crawl = of("meter use 100 digits 3 age 0 at 0 0 crawl;");
        due("age 0", crawl.won(0, 364), 0);
        due("age 1", crawl.won(0, 365), 365);
        due("age 0", crawl.change(500, 364), 0);
        due("age 1", crawl.change(500, 365), 1);
    }

    // ---- Terms XI

    private static void nights() {
        sentence = "XI, nobody uses anything, and nothing is flushed";
        String two = "meter use 5 digits 6 age 0 at 0 0;meter below 0 use 5 digits 6 age 0 at 0 0;";
        WheelTown x = of(two + "leak 1 rate 3 since 0;leak 1 rate 4 since 9;leak 1 rate 5 since 9;flush 1 litres 99 on 9;"
                + "leak 1 rate 6 since 729;");
        int[][] rows = {{0, 3, 3}, {1, 3, 0}, {8, 3, 0}, {9, 12, 9}, {10, 12, 0}, {728, 12, 0}, {729, 18, 6}};
        for (int[] row : rows) {
            due("night(0, " + row[0] + ")", x.night(0, row[0]), row[1]);
            sentence = "XI, BURST (of DAY 0: less 0)";
            due("burst(0, " + row[0] + ")", x.burst(0, row[0]), row[2]);
            due("of the METER behind the PIPE", x.burst(1, row[0]), 0);
            due("night of it", x.night(1, row[0]), 0);
        }
        sentence = "44, bursts";
        int[] want = {0, 9, 729, NONE, NONE, NONE, NONE, NONE};
        for (int i = 0; i < want.length; i++) {
            due("bursts(0, " + i + ")", x.bursts(0, i), want[i]);
            due("bursts(1, " + i + ")", x.bursts(1, i), NONE);
        }
        due("bursts(0, FAR)", x.bursts(0, FAR), NONE);
        due("bursts(0, -1)", x.bursts(0, -1), -2);
        due("bursts(0, LOW)", x.bursts(0, LOW), -2);
        WheelTown six = of(two + "leak 1 rate 1 since 5;leak 1 rate 1 since 4;leak 1 rate 1 since 3;leak 1 rate 1 since 2;"
                + "leak 1 rate 1 since 1;leak 1 rate 1 since 0;");
        for (int i = 0; i < 6; i++) {
            due("six, bursts(0, " + i + ")", six.bursts(0, i), i);
            due("six, night(0, " + i + ")", six.night(0, i), i + 1);
        }
        due("six, bursts(0, 6)", six.bursts(0, 6), NONE);
        due("six, bursts(0, 7)", six.bursts(0, 7), NONE);
        due("no LEAKS", of(two).bursts(0, 0), NONE);
        loud();
    }

    private static void loud() {
        sentence = "XI, LOUD, by (1, and minutes), cut";
        WheelTown x = of("meter use 1 digits 3 age 0 at 0 0;meter below 0 use 1 digits 3 age 0 at 99 99;"
                + "leak 1 rate 198 since 5;leak 1 rate 199 since 6;");
        due("ahead of it", x.rod(1, 4), 0);
        due("at it", x.rod(1, 5), 198);
        due("198 by 199, cut", x.rod(0, 5), 0);
        due("199 by 199", x.rod(0, 6), 1);
        due("on the last DAY", x.rod(1, 729), 397);
        sentence = "36, NONE: it is still everywhere";
        due("ahead of it", x.loudest(4), NONE);
        due("DAY 0", x.loudest(0), NONE);
        due("on its DAY", x.loudest(5), 1);
        due("no LEAKS", twelve().loudest(729), NONE);
        x = of("meter use 1 digits 3 age 0 at 0 0;meter below 0 use 1 digits 3 age 0 at 0 0;leak 1 rate 1 since 0;");
        due("the first of several", x.loudest(0), 0);
    }

    // ---- OWN USE

    private static void uses() {
        sentence = "37, more than a number of litres";
        WheelTown x = of("meter use 999 summer 999 digits 3 age 0 at 0 0;meter use 0 digits 3 age 0 at 0 0;"
                + "meter use 1 digits 3 age 0 at 0 0;empty 0 from 240 to 241;");
        due("just so much", x.drought(999, 0), 0);
        due("more", x.drought(998, 0), 1);
        due("in summer just so much", x.drought(1998, 239), 0);
        due("in summer more", x.drought(1997, 239), 1);
        due("0 litres: more than 0 alone", x.drought(0, 0), 5);
        due("empty", x.drought(0, 240), 4);
        due("9,999", x.drought(9999, 239), 0);
        due("METER 11", twelve().drought(0, 0), 4095);
        due("none", twelve().drought(1, 0), 0);
        sentence = "38, the greatest number of litres";
        due("just the sum", x.limit(1000, 0), 9999);
        due("one less", x.limit(999, 0), 998);
        due("2", x.limit(2, 0), 1);
        due("1: each is 0", x.limit(1, 0), 0);
        due("0", x.limit(0, 0), 0);
        due("999,999", x.limit(999999, 239), 9999);
        due("in summer", x.limit(1999, 239), 9999);
        due("in summer one less", x.limit(1998, 239), 1997);
        due("empty", x.limit(1, 240), 9999);
        due("empty", x.limit(0, 240), 0);
        due("nobody uses anything", of("meter use 0 digits 3 age 0 at 0 0;").limit(0, 0), 9999);
        due("twelve of 1", twelve().limit(11, 0), 0);
        due("twelve of 1", twelve().limit(12, 0), 9999);
        sentence = "47, of summer, EMPTY DAYS aside";
        for (int year = 0; year < 2; year++) {
            int first = 365 * year;
            int[][] rows = {{0, 149, 90}, {0, 150, 89}, {239, 364, 89}, {240, 364, 90}, {150, 239, 0}, {151, 238, 2},
                {0, 364, 0}, {150, 150, 89}};
            for (int[] row : rows) {
                WheelTown y = of("meter use 1 summer 2 digits 3 age 0 at 0 0;empty 0 from " + (first + row[0]) + " to "
                        + (first + row[1]) + ";");
                due("empty " + row[0] + " .. " + row[1], y.garden(0, year), 2 * row[2]);
                due("the other YEAR", y.garden(0, 1 - year), 180);
            }
        }
        due("no summer", of(ONE).garden(0, 0), 0);
        due("most", of("meter use 1 summer 999 digits 3 age 0 at 0 0;").garden(0, 1), 89910);
        sentence = "48, DAYS on which it is empty";
        due("none", of(ONE).vacant(0), 0);
        due("all", of(ONE + "empty 0 from 0 to 729;empty 0 from 5 to 5;").vacant(0), 730);
        due("next to each other", of(ONE + "empty 0 from 0 to 4;empty 0 from 5 to 5;").vacant(0), 6);
        due("one DAY of both", of(ONE + "empty 0 from 0 to 5;empty 0 from 5 to 9;").vacant(0), 10);
        due("of another METER", of(ONE + ONE + "empty 1 from 0 to 5;").vacant(0), 0);
    }

    // ---- Terms XII

    private static void errorsAndLots() {
        sentence = "XII, HOW FAR: the lesser way round";
        int[][] far = {{0, 0}, {1, 1}, {499, 499}, {500, 500}, {501, 499}, {999, 1}};
        for (int[] row : far) {
            for (int start : new int[] {0, 1, 500, 999}) {
                WheelTown x = of("meter use 0 digits 3 start " + start + " age 0 at 0 0;");
                x.reading(0, 0, (start + row[0]) % 1000, 1);
                due(row[0] + " from " + start, x.errors(1, 2), row[1]);
                due(row[0] + " from " + start, x.errors(1, 3), row[1]);
                due(row[0] + " from " + start, x.errors(1, 1), row[1] == 0 ? 0 : 1);
                due("of another sort", x.errors(0, 2), 0);
            }
        }
        sentence = "39, errors";
        WheelTown six = of("meter use 0 digits 6 age 0 at 0 0;");
        for (int sort = 0; sort < 3; sort++) {
            for (int what = 0; what < 4; what++) {
                due("none, errors(" + sort + ", " + what + ")", six.errors(sort, what), 0);
            }
        }
        for (int day = 0; day < 120; day++) {
            six.reading(0, day, 500000, 2);
        }
        due("how many", six.errors(2, 0), 120);
        due("not as it shows", six.errors(2, 1), 120);
        due("together", six.errors(2, 2), 60000000);
        due("the greatest", six.errors(2, 3), 500000);
        sentence = "XII, OFF, cut";
        due("nothing goes through", of("meter use 0 digits 3 age 0 at 0 0;").off(0, 0), NOTHING);
        due("by 0", of("meter use 1 digits 3 age 0 at 0 0;").off(0, 0), 0);
        due("half of 3", of("meter use 3 digits 3 age 0 at 0 0 half;").off(0, 0), -666);
        due("half of 1", of("meter use 1 digits 3 age 0 at 0 0 half;").off(0, 0), -1000);
        due("crawl, 1 of 101", of("meter use 101 digits 3 age 1 at 0 0 crawl;").off(0, 0), -9);
        due("double", of("meter use 999 digits 3 age 1 at 0 0 double;").off(0, 0), 1000);
        due("backward", of("meter use 999 digits 3 age 1 at 0 0 backward;").off(0, 0), -2000);
        sentence = "41, of none it can be told, or all are OFF by 0";
        due("of none", of("meter use 0 digits 3 age 0 at 0 0 stuck;").worst(0), NONE);
        due("by 0", of("meter use 9 digits 3 age 0 at 0 0;").worst(0), NONE);
        due("one of each, and one OFF", of("meter use 0 digits 3 age 0 at 0 0 stuck;meter use 9 digits 3 age 0 at 0 0;"
                + "meter use 999 digits 3 age 1 at 0 0 crawl;").worst(0), 2);
        due("as far above as below: the first", of("meter use 9 digits 3 age 0 at 0 0 double;"
                + "meter use 9 digits 3 age 0 at 0 0 stuck;").worst(0), 0);
        due("as far below as above: the first", of("meter use 9 digits 3 age 0 at 0 0 stuck;"
                + "meter use 9 digits 3 age 0 at 0 0 double;").worst(0), 0);
        due("below by more", of("meter use 9 digits 3 age 0 at 0 0 double;"
                + "meter use 9 digits 3 age 0 at 0 0 backward;").worst(0), 1);
        sentence = "42, OFF by more than a bound, above or below";
        WheelTown x = of("meter use 9 digits 3 age 0 at 0 0 double;meter use 9 digits 3 age 0 at 0 0 backward;"
                + "meter use 0 digits 3 age 0 at 0 0 stuck;meter use 9 digits 3 age 0 at 0 0;");
        int[][] bounds = {{0, 2}, {999, 2}, {1000, 1}, {1999, 1}, {2000, 0}, {9999, 0}};
        for (int[] row : bounds) {
            due("lot of all, bound " + row[0], x.lot(2000000000, 4, 0, row[0]), row[1]);
        }
        due("all of twelve", of(ONE.replace(";", " half;").repeat(12)).lot(1, 12, 729, 999), 12);
        due("eleven of twelve", of(ONE.replace(";", " half;").repeat(12)).lot(1, 11, 729, 999), 11);
        due("one", of(ONE.replace(";", " half;")).lot(2000000000, 1, 0, 999), 1);
        due("of just the bound", of(ONE.replace(";", " half;")).lot(2000000000, 1, 0, 1000), 0);
        due("n 0", x.lot(0, 0, 0, 0), -2);
        due("n 5 of 4", x.lot(0, 5, 0, 0), -2);
    }

    // ---- guesses

    private static void guesses() {
        sentence = "49, NONE: there are no two";
        WheelTown x = of(ONE);
        due("none", x.missed(0), NONE);
        x.reading(0, 0, 10, 0);
        due("one", x.missed(0), NONE);
        x.reading(0, 1, 10, 2);
        due("one and a guess", x.missed(0), NONE);
        sentence = "50, NONE: there are no two";
        due("one and a guess", x.guess(0, 729), NONE);
        x.reading(0, 3, 20, 1);
        due("two, ahead of the latter", x.guess(0, 2), NONE);
        due("two, on the DAY of the latter", x.guess(0, 3), 20);
        due("a DAY behind it, 3.33, cut", x.guess(0, 4), 23);
        due("two DAYS behind it, 6.67, cut", x.guess(0, 5), 26);
        due("three DAYS behind it", x.guess(0, 6), 30);
        due("the last DAY, 726 DAYS behind it: 2,440", x.guess(0, 729), 440);
        sentence = "49, the most DAYS";
        due("three", x.missed(0), 3);
        x.reading(0, 4, 999, 0);
        due("three, then one", x.missed(0), 3);
        sentence = "50, its latest two";
        due("on the DAY of the latter", x.guess(0, 4), 999);
        due("over its end", x.guess(0, 5), 978);
        due("the two ahead of it", x.guess(0, 3), 20);
        x.reading(0, 729, 998, 0);
        due("the last DAY", x.guess(0, 729), 998);
        sentence = "49, the most DAYS";
        due("725", x.missed(0), 725);
        WheelTown most = of("meter use 1 digits 6 age 0 at 0 0;");
        most.reading(0, 0, 1, 0);
        most.reading(0, 1, 0, 0);
        sentence = "50, modulo 10 to the DIGITS";
        due("999,999 times 728", most.guess(0, 729), 1000000 - 728);
        most.undo(2);
        most.reading(0, 0, 1, 0);
        most.reading(0, 729, 0, 0);
        sentence = "49, the most DAYS";
        due("all", most.missed(0), 729);
        due("of another METER", of(ONE + ONE).missed(1), NONE);
    }

    // ---- IMAGES and SLOTS

    private static void imagesAndSlots() {
        judges();
        images();
        rows();
        widths();
        pastes();
    }

    private static void judges() {
        sentence = "51, ahead of the first that is not (beyond DAY 729: not)";
        WheelTown x = of("meter use 1 digits 3 age 0 at 0 0;");
        x.row(0, 1, 60);
        for (int i = 0; i < 60; i++) {
            x.write(0, i, 671 + i);
        }
        due("all", x.judge(0, 0, 670), 60);
        due("another DAY", x.judge(0, 0, 671), 0);
        due("another DAY", x.judge(0, 0, 669), 0);
        x.write(0, 59, 0);
        due("but the last", x.judge(0, 0, 670), 59);
        x.write(0, 59, 730);
        x.write(0, 0, 0);
        due("the first is not", x.judge(0, 0, 670), 0);
        x.row(0, 1, 2);
        x.write(0, 0, 730);
        x.write(0, 1, 731);
        due("DAY 729 is the last", x.judge(0, 0, 729), 1);
        x.row(0, 1, 0);
        due("a row of none", x.judge(0, 0, 729), 0);
        sentence = "51, -6: it has nothing";
        due("SLOT 1", x.judge(1, 0, 0), -6);
        due("-2 ahead of -6: METER", x.judge(1, 1, 0), -2);
        due("-2 ahead of -6: DAY", x.judge(1, 0, 730), -2);
        due("SLOT 4", x.judge(4, 0, 0), -2);
        due("SLOT -1", x.judge(-1, 0, 0), -2);
    }

    private static void images() {
        sentence = "53, no such k";
        WheelTown x = of(BASE);
        refused(x, "keep(3)", () -> x.keep(3), -2);
        refused(x, "keep(-1)", () -> x.keep(-1), -2);
        sentence = "54, -6: it has nothing";
        for (int k = 0; k < 3; k++) {
            int image = k;
            refused(x, "back(" + k + ")", () -> x.back(image), -6);
        }
        refused(x, "back(3)", () -> x.back(3), -2);
        refused(x, "back(-1)", () -> x.back(-1), -2);
        due("keep(1)", x.keep(1), 0);
        refused(x, "back(0)", () -> x.back(0), -6);
        refused(x, "back(2)", () -> x.back(2), -6);
        due("back(1)", x.back(1), 0);
        sentence = "53, an IMAGE of none, and of as much as there can be";
        WheelTown y = new WheelTown();
        due("keep(0)", y.keep(0), 0);
        tell(y, ONE.repeat(12));
        for (int i = 0; i < 120; i++) {
            y.reading(i % 12, i / 12, i, i % 3);
        }
        due("keep(2)", y.keep(2), 0);
        String full = state(y);
        due("back(0)", y.back(0), 0);
        due("no METERS", y.count(0), 0);
        due("no READINGS", y.count(2), 0);
        due("walk(0)", y.walk(0), -2);
        due("back(2)", y.back(2), 0);
        due("120 READINGS", y.count(2), 120);
        due("all as it was", state(y).equals(full) ? 1 : 0, 1);
        due("there are 120", y.reading(0, 500, 0, 0), -3);
        y.undo(120);
        due("an IMAGE is a copy", y.back(2), 0);
        due("all as it was", state(y).equals(full) ? 1 : 0, 1);
        sentence = "54, TOWN and READINGS alone";
        y.feed(0, 0, 0, 0, 0);
        y.row(3, 0, 1);
        y.town();
        due("a FAULT", y.fault(0), 1);
        due("back(0)", y.back(0), 0);
        due("the TAPE stays", y.count(5), 20);
        due("the SLOT stays", y.count(6), 1);
        due("the latest town() stays", y.fault(0), 1);
    }

    private static void rows() {
        sentence = "55, -3, and the SLOT stays: n is below 0";
        WheelTown x = of(ONE);
        x.row(0, 1, 2);
        x.write(0, 0, 1);
        x.write(0, 1, 2);
        for (int n : new int[] {-1, -60, LOW}) {
            refused(x, "row(0, 0, " + n + ")", () -> x.row(0, 0, n), -3);
            refused(x, "row(1, 0, " + n + ")", () -> x.row(1, 0, n), -3);
            refused(x, "-2 ahead of -3: WIDTH", () -> x.row(0, 4, n), -2);
            refused(x, "-2 ahead of -3: SLOT", () -> x.row(4, 0, n), -2);
        }
        due("as it was", x.judge(0, 0, 0), 2);
        due("of WIDTH 1 still", x.write(0, 0, 65537), 0);
        due("as it was", x.judge(0, 0, 0), 2);
        refused(x, "61", () -> x.row(0, 0, 61), -2);
        refused(x, "FAR", () -> x.row(0, 0, FAR), -2);
        sentence = "55, all 0 (in place of another one)";
        due("a row of none", x.row(0, 3, 0), 0);
        due("it has one", x.count(6), 1);
        due("no number", x.write(0, 0, 1), -7);
        for (int width = 0; width < 4; width++) {
            due("row", x.row(width, width, 60), 0);
            due("the last", x.write(width, 59, 1), 0);
            due("none behind it", x.write(width, 60, 1), -7);
        }
        due("all SLOTS", x.count(6), 4);
        WheelTown stuck = of("meter use 1 digits 3 age 0 at 0 0 stuck;");
        stuck.row(0, 0, 60);
        for (int i = 0; i < 60; i++) {
            stuck.write(0, i, 1);
        }
        due("all 1", stuck.judge(0, 0, 0), 0);
        due("row", stuck.row(0, 0, 60), 0);
        due("all 0", stuck.judge(0, 0, 0), 60);
        due("a shorter one", stuck.row(0, 0, 59), 0);
        due("all 0", stuck.judge(0, 0, 0), 59);
    }

    /** Numbers are looked at by a METER that stands still at each of them. */
    private static void widths() {
        sentence = "56, cut to its WIDTH";
        int[] wheels = {0, 1, 127, 128, 255, 256, 32767, 32768, 65535, 65536, 999999};
        StringBuilder text = new StringBuilder();
        for (int wheel : wheels) {
            text.append("meter use 1 digits 6 start ").append(wheel).append(" age 0 at 0 0 stuck;");
        }
        WheelTown x = of(text.toString());
        long[] written = {0, 1, 127, 128, 255, 256, 257, 383, 32767, 32768, 65535, 65536, 65537, 98303, 999999,
            4294967296L, 4294967297L, 4295967295L, -1, -128, -129, -255, -256, -32769, -65536, -4294967296L,
            Long.MAX_VALUE, Long.MIN_VALUE};
        for (int width = 0; width < 4; width++) {
            x.row(0, width, 1);
            for (long v : written) {
                due("write", x.write(0, 0, v), 0);
                long is = width == 0 ? (byte) v : width == 1 ? (short) v : width == 2 ? (int) v : v;
                for (int m = 0; m < wheels.length; m++) {
                    due(v + " of WIDTH " + width + " as " + wheels[m], x.judge(0, m, 0), is == wheels[m] ? 1 : 0);
                }
            }
        }
        sentence = "56, -7: there is no such number; -6: it has nothing";
        due("write(0, 1, 1)", x.write(0, 1, 1), -7);
        due("write(0, -1, 1)", x.write(0, -1, 1), -7);
        due("write(0, LOW, 1)", x.write(0, LOW, 1), -7);
        due("write(0, FAR, 1)", x.write(0, FAR, 1), -7);
        due("-6 ahead of -7", x.write(1, -1, 1), -6);
        due("write(1, 0, 1)", x.write(1, 0, 1), -6);
        due("write(4, 0, 1)", x.write(4, 0, 1), -2);
    }

    /** A row of 1, 2, .. is just what a METER shows that counts one a DAY. */
    private static WheelTown counting(int n) {
        WheelTown x = of(ONE);
        for (int slot = 0; slot < 2; slot++) {
            x.row(slot, 1, n);
            for (int i = 0; i < n; i++) {
                x.write(slot, i, i + 1);
            }
        }
        x.row(2, 2, n);
        return x;
    }

    private static void pastes() {
        sentence = "57, -7, and nothing happens";
        WheelTown x = counting(5);
        int[][] beyond = {{0, 0, 1, 0, 6}, {0, 5, 1, 0, 1}, {0, 0, 1, 5, 1}, {0, 1, 1, 0, 5}, {0, 0, 1, 1, 5},
            {0, -1, 1, 0, 1}, {0, 0, 1, -1, 1}, {0, 0, 1, 0, -1}, {0, 6, 1, 0, 0}, {0, 0, 1, 6, 0}, {0, FAR, 1, 0, 1},
            {0, 0, 1, FAR, 1}, {0, 0, 1, 0, FAR}, {0, FAR, 1, FAR, FAR}, {0, LOW, 1, 0, 1}, {0, 0, 1, LOW, 1},
            {0, 0, 1, 0, LOW}, {0, 1, 1, 1, FAR}, {0, 4, 0, 0, 2}, {0, 0, 0, 4, 2}, {0, 2, 0, 3, 3}};
        for (int[] p : beyond) {
            refused(x, "paste(" + p[0] + ", " + p[1] + ", " + p[2] + ", " + p[3] + ", " + p[4] + ")",
                    () -> x.paste(p[0], p[1], p[2], p[3], p[4]), -7);
        }
        due("SLOT 0 as it was", x.judge(0, 0, 0), 5);
        due("SLOT 1 as it was", x.judge(1, 0, 0), 5);
        sentence = "57, -2, -6, -8, -7, in this order";
        refused(x, "not of one WIDTH", () -> x.paste(0, 0, 2, 0, 1), -8);
        refused(x, "not of one WIDTH, none", () -> x.paste(2, 0, 0, 0, 0), -8);
        refused(x, "-8 ahead of -7", () -> x.paste(0, 9, 2, -1, -1), -8);
        refused(x, "one has nothing", () -> x.paste(0, 0, 3, 0, 1), -6);
        refused(x, "the other has nothing", () -> x.paste(3, 0, 0, 0, 1), -6);
        refused(x, "both have nothing", () -> x.paste(3, 0, 3, 0, 0), -6);
        refused(x, "-6 ahead of -7", () -> x.paste(3, -1, 0, -1, -1), -6);
        refused(x, "no such SLOT", () -> x.paste(4, 0, 0, 0, 1), -2);
        refused(x, "no such SLOT", () -> x.paste(0, 0, -1, 0, 1), -2);
        refused(x, "-2 ahead of -6", () -> x.paste(3, 0, 4, 0, 1), -2);
        sentence = "57, none at all";
        leavesAll(x, "at the end of both", () -> x.paste(0, 5, 1, 5, 0), 0);
        leavesAll(x, "all onto itself", () -> x.paste(0, 0, 0, 0, 5), 0);
        leavesAll(x, "all of one that is the same", () -> x.paste(0, 0, 1, 0, 5), 0);
        sentence = "57, as they were";
        for (int by = 1; by < 5; by++) {
            WheelTown up = counting(5);
            due("up by " + by, up.paste(0, 0, 0, by, 5 - by), 0);
            due("it starts as it did", up.judge(0, 0, 0), by);
            WheelTown down = counting(5);
            due("down by " + by, down.paste(0, by, 0, 0, 5 - by), 0);
            due("those that were further on", down.judge(0, 0, by), 5 - by);
        }
        WheelTown up = counting(5);
        up.paste(0, 0, 0, 1, 4);
        up.paste(0, 1, 1, 0, 4);
        due("1, 2, 3, 4, then 5 of before", up.judge(1, 0, 0), 5);
        sentence = "57, rows of 60, and of unlike lengths";
        WheelTown most = counting(60);
        due("all", most.paste(0, 0, 1, 0, 60), 0);
        due("61", most.paste(0, 0, 1, 0, 61), -7);
        most.row(1, 1, 3);
        due("of a longer row", most.paste(0, 57, 1, 0, 3), 0);
        due("58, 59, 60", most.judge(1, 0, 57), 3);
        due("too many for it", most.paste(0, 56, 1, 0, 4), -7);
        due("to a longer row", most.paste(1, 0, 0, 57, 3), 0);
        due("too many from it", most.paste(1, 0, 0, 0, 4), -7);
        due("as it was", most.judge(0, 0, 0), 60);
    }
}
