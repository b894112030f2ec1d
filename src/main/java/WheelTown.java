import java.util.Arrays;

/**
 * A town of water meters, told as a text: what goes through them, what their wheels show, what
 * readings of them tell, and what is billed by those.
 *
 * <p>Rows are made once, in constructors, and used again: a long run of calls makes no more objects
 * than a short one.
 */
public final class WheelTown {
    public static final int NONE = -1;

    private static final int NONE_SUCH = -2;
    private static final int TOO_MANY = -3;
    private static final int BELOW_ZERO = -3;
    private static final int FAULTY_TEXT = -4;
    private static final int NOT_LATER = -5;
    private static final int HAS_NOTHING = -6;
    private static final int BEYOND_ROW = -7;
    private static final int OTHER_WIDTH = -8;
    private static final int NOTHING = -2000000000;

    private static final int TAPE_MOST = 1200;
    private static final int FED_AT_ONCE = 20;
    private static final int METERS_MOST = 12;
    private static final int EVENTS_MOST = 6;
    private static final int READINGS_MOST = 120;
    private static final int IMAGES = 3;
    private static final int SLOTS = 4;
    private static final int ROW_MOST = 60;
    private static final int YEARS = 2;
    private static final int YEAR_DAYS = 365;
    private static final int DAYS = 730;
    private static final int SUMMER_FROM = 150;
    private static final int SUMMER_TO = 240;
    private static final int FAULTS = 7;
    private static final int BACKWARD = 3;
    private static final int GUESS = 2;
    private static final int SORTS = 3;
    private static final int CHOICES_MOST = 1000000;

    private final byte[] tape = new byte[TAPE_MOST];
    private int tapeLength = 0;
    private Town town = new Town();
    private final Parser parser = new Parser();
    private int textFault = 0;
    private int textPlace = NONE;
    private final Readings readings = new Readings();
    private final Town[] keptTowns = new Town[IMAGES];
    private final Readings[] keptReadings = new Readings[IMAGES];
    private final Stretches stretches = new Stretches();
    private final Tally tally = new Tally();
    private final Supposed supposed = new Supposed();
    private final Walks walks = new Walks();
    private final Slot[] slots = new Slot[SLOTS];
    private final int[] shown = new int[FAULTS];
    private final int[] pool = new int[METERS_MOST];

    public WheelTown() {
        for (int i = 0; i < SLOTS; i++) {
            slots[i] = new Slot();
        }
    }

    // ---- the text of a TOWN

    public int feed(int a, int b, int c, int d, int e) {
        if (tapeLength > TAPE_MOST - FED_AT_ONCE) {
            return NONE;
        }
        putBytes(a);
        putBytes(b);
        putBytes(c);
        putBytes(d);
        putBytes(e);
        return tapeLength;
    }

    private void putBytes(int four) {
        for (int shift = 24; shift >= 0; shift -= 8) {
            if (tapeLength < TAPE_MOST) {
                tape[tapeLength] = (byte) (four >> shift);
                tapeLength++;
            }
        }
    }

    public int end(int n) {
        if (n < 0 || n > tapeLength) {
            return NONE;
        }
        tapeLength = n;
        return n;
    }

    public int town() {
        parser.parse(tape, tapeLength);
        textFault = parser.fault;
        textPlace = parser.place;
        if (textFault != 0) {
            return FAULTY_TEXT;
        }
        Town old = town;
        town = parser.told;
        parser.told = old;
        tapeLength = 0;
        readings.count = 0;
        lookAnew();
        return town.lines;
    }

    public int fault(int what) {
        switch (what) {
            case 0:
                return textFault;
            case 1:
                return textPlace;
            default:
                return NONE;
        }
    }

    /** What is dear to work out of the TOWN waits until it is asked for next. */
    private void lookAnew() {
        stretches.lay(town);
        walks.forget();
        supposed.fresh = false;
    }

    private void forgetReadings() {
        supposed.fresh = false;
    }

    // ---- what goes through, and what the wheels show

    private boolean isMeter(int meter) {
        return meter >= 0 && meter < town.meterCount;
    }

    private static boolean isDay(int day) {
        return day >= 0 && day < DAYS;
    }

    private static boolean isWithin(int number, int least, int greatest) {
        return number >= least && number <= greatest;
    }

    /** The number of the lowest bit that is set. */
    private static int firstBit(int bits) {
        return Integer.bitCount((bits & -bits) - 1);
    }

    /** A span has a DAY at least; its end is not among its DAYS. */
    private static boolean isSpan(int from, int to) {
        return from >= 0 && from < to && to <= DAYS;
    }

    private static int yearOf(int day) {
        return day < YEAR_DAYS ? 0 : 1;
    }

    public int flow(int meter, int day, int what) {
        if (!isMeter(meter) || !isDay(day) || !isWithin(what, 0, 3)) {
            return NONE_SUCH;
        }
        int i = stretches.ofDay[day];
        switch (what) {
            case 0:
                return stretches.own[meter][i];
            case 1:
                return stretches.through[meter][i];
            case 2:
                return stretches.ahead[meter][i];
            default:
                return stretches.through[meter][i] + stretches.ahead[meter][i];
        }
    }

    public int turned(int meter, int day) {
        if (!isMeter(meter) || !isDay(day)) {
            return NOTHING;
        }
        return turnsOn(meter, day);
    }

    private int throughOn(int meter, int day) {
        return stretches.through[meter][stretches.ofDay[day]];
    }

    private int turnsOn(int meter, int day) {
        Meter m = town.meters[meter];
        return Tally.turnsOf(m.fault, throughOn(meter, day), m.age + yearOf(day));
    }

    public int wheel(int meter, int day) {
        if (!isMeter(meter) || !isDay(day)) {
            return NONE_SUCH;
        }
        tallyBy(meter, town.meters[meter].fault);
        return talliedWheel(meter, day);
    }

    private void tallyBy(int meter, int fault) {
        tally.fill(stretches, town.meters[meter], fault, stretches.through[meter], 0);
    }

    private int talliedWheel(int meter, int day) {
        return town.meters[meter].shownAfter(tally.upTo(stretches, day));
    }

    // ---- READINGS

    public int reading(int meter, int day, int wheel, int sort) {
        if (!isMeter(meter) || !isDay(day) || !isWithin(sort, 0, SORTS - 1)
                || !isWithin(wheel, 0, town.meters[meter].modulus - 1)) {
            return NONE_SUCH;
        }
        return tell(meter, day, wheel, sort);
    }

    public int read(int meter, int day, int swapped) {
        if (!isMeter(meter) || !isDay(day)
                || !isWithin(swapped, NONE, town.meters[meter].digits - 2)) {
            return NONE_SUCH;
        }
        tallyBy(meter, town.meters[meter].fault);
        int shows = talliedWheel(meter, day);
        return tell(meter, day, swapped == NONE ? shows : swapDigits(shows, swapped), 0);
    }

    private static int swapDigits(int number, int place) {
        int low = Meter.powerOfTen(place);
        int right = number / low % 10;
        int left = number / low / 10 % 10;
        return number + (left - right) * low + (right - left) * low * 10;
    }

    private int tell(int meter, int day, int wheel, int sort) {
        if (readings.count >= READINGS_MOST) {
            return TOO_MANY;
        }
        if (day <= readings.latestDay(meter)) {
            return NOT_LATER;
        }
        forgetReadings();
        return readings.add(meter, day, wheel, sort);
    }

    public int undo(int n) {
        if (n < 0 || n > readings.count) {
            return NONE_SUCH;
        }
        readings.count -= n;
        forgetReadings();
        return readings.count;
    }

    public int told(int i, int what) {
        if (i < 0 || i >= readings.count) {
            return NONE;
        }
        switch (what) {
            case 0:
                return readings.meters[i];
            case 1:
                return readings.days[i];
            case 2:
                return readings.wheels[i];
            case 3:
                return readings.sorts[i];
            default:
                return NONE;
        }
    }

    public int readings(int meter, int what) {
        if (!isMeter(meter) || !isWithin(what, 0, 1)) {
            return NONE_SUCH;
        }
        int many = 0;
        for (int i = 0; i < readings.count; i++) {
            if (readings.meters[i] == meter && (readings.sorts[i] == GUESS) == (what == 1)) {
                many++;
            }
        }
        return many;
    }

    public int counted(int meter, int i) {
        if (!isMeter(meter) || i < 0) {
            return NONE_SUCH;
        }
        int former = readings.firmBehind(meter, NONE);
        for (int k = 0; k < i && k < READINGS_MOST && former != NONE; k++) {
            former = readings.firmBehind(meter, former);
        }
        if (former == NONE || i >= READINGS_MOST) {
            return NONE;
        }
        int latter = readings.firmBehind(meter, former);
        return latter == NONE ? NONE : countedFrom(meter, former, latter);
    }

    private int countedFrom(int meter, int former, int latter) {
        return town.meters[meter].countedFrom(readings.wheels[former], readings.wheels[latter]);
    }

    // ---- BALANCE and LOST

    public int balance(int meter, int from, int to, int what) {
        if (!isMeter(meter) || !isSpan(from, to) || !isWithin(what, 0, 1)) {
            return NONE_SUCH;
        }
        return what == 0 ? leastBalance(meter, from, to) : greatestBalance(meter, from, to);
    }

    private int leastBalance(int meter, int from, int to) {
        return countedAlong(meter, readings.firstFirm(meter, from - 1),
                readings.latestFirm(meter, to - 1));
    }

    /** NONE, if it can't be told. */
    private int greatestBalance(int meter, int from, int to) {
        int former = readings.latestFirm(meter, from - 1);
        int latter = readings.firstFirm(meter, to - 1);
        if (former == NONE || latter == NONE) {
            return NONE;
        }
        return countedAlong(meter, former, latter);
    }

    /** COUNTED, READING by READING; 0, if they are not two, the former ahead. */
    private int countedAlong(int meter, int former, int latter) {
        if (former == NONE || latter == NONE) {
            return 0;
        }
        int sum = 0;
        int last = former;
        for (int i = former + 1; i <= latter; i++) {
            if (readings.isFirm(meter, i)) {
                sum += countedFrom(meter, last, i);
                last = i;
            }
        }
        return sum;
    }

    public int lost(int meter, int from, int to, int what) {
        if (!isMeter(meter) || !isSpan(from, to) || !isWithin(what, 0, 1)) {
            return NOTHING;
        }
        int lost = balance(meter, from, to, what);
        if (lost == NONE) {
            return NOTHING;
        }
        lost -= stretches.total(stretches.own[meter], from, to);
        for (int below = meter + 1; below < town.meterCount; below++) {
            if (town.meters[below].parent == meter) {
                int one = balance(below, from, to, 1 - what);
                if (one == NONE) {
                    return NOTHING;
                }
                lost -= one;
            }
        }
        return lost;
    }

    // ---- which FAULTS fit

    private boolean talliedFits(int meter) {
        for (int i = 0; i < readings.count; i++) {
            if (readings.isFirm(meter, i)
                    && talliedWheel(meter, readings.days[i]) != readings.wheels[i]) {
                return false;
            }
        }
        return true;
    }

    private int fittingFaults(int meter) {
        int bits = 0;
        for (int f = 0; f < FAULTS; f++) {
            tallyBy(meter, f);
            if (talliedFits(meter)) {
                bits |= 1 << f;
            }
        }
        return bits;
    }

    public int fits(int meter) {
        return isMeter(meter) ? fittingFaults(meter) : NONE_SUCH;
    }

    public int fewest() {
        int many = 0;
        for (int m = 0; m < town.meterCount; m++) {
            int bits = fittingFaults(m);
            if (bits == 0) {
                return NONE;
            }
            if ((bits & 1) == 0) {
                many++;
            }
        }
        return many;
    }

    public int sets() {
        int many = 1;
        for (int m = 0; m < town.meterCount; m++) {
            int bits = fittingFaults(m);
            if (bits == 0) {
                return 0;
            }
            if ((bits & 1) == 0) {
                many = Math.min(CHOICES_MOST, many * Integer.bitCount(bits));
            }
        }
        return many;
    }

    public int alone(int meter) {
        if (!isMeter(meter) || fewest() == NONE) {
            return NONE;
        }
        int bits = fittingFaults(meter);
        if ((bits & 1) != 0) {
            return 0;
        }
        return Integer.bitCount(bits) == 1 ? firstBit(bits) : NONE;
    }

    public int ways(int meter) {
        if (!isMeter(meter)) {
            return NONE_SUCH;
        }
        int bits = fittingFaults(meter);
        return (bits & 1 << BACKWARD) == 0 ? NONE : Integer.bitCount(bits) - 1;
    }

    // ---- SUPPOSED LEAKS

    public int leak(int what) {
        if (!isWithin(what, 0, 3)) {
            return NONE;
        }
        supposed.seek(town, readings, stretches);
        switch (what) {
            case 0:
                return supposed.firstPipe;
            case 1:
                return supposed.firstRate;
            case 2:
                return supposed.firstSince;
            default:
                return supposed.many;
        }
    }

    public int span(int meter) {
        if (!isMeter(meter)) {
            return NONE_SUCH;
        }
        supposed.seek(town, readings, stretches);
        return supposed.rateSpan(meter);
    }

    // ---- what a next READING would tell

    private int unlikeWheels(int meter, int day) {
        int many = 0;
        for (int f = 0; f < FAULTS; f++) {
            tallyBy(meter, f);
            if (talliedFits(meter)) {
                int shows = talliedWheel(meter, day);
                if (!isAmongShown(shows, many)) {
                    shown[many] = shows;
                    many++;
                }
            }
        }
        return many;
    }

    private boolean isAmongShown(int shows, int many) {
        for (int i = 0; i < many && i < FAULTS; i++) {
            if (shown[i] == shows) {
                return true;
            }
        }
        return false;
    }

    public int next(int day) {
        if (!isDay(day)) {
            return NONE_SUCH;
        }
        int best = NONE;
        int most = NONE;
        for (int m = 0; m < town.meterCount; m++) {
            if (readings.latestDay(m) < day) {
                int many = unlikeWheels(m, day);
                if (many > most) {
                    most = many;
                    best = m;
                }
            }
        }
        return best;
    }

    public int unlike(int meter, int day) {
        if (!isMeter(meter) || !isDay(day)) {
            return NONE_SUCH;
        }
        return unlikeWheels(meter, day);
    }

    // ---- WALKS

    private Walks walkedPast(int set) {
        if (!walks.isReady(set)) {
            walks.lay(town, set);
        }
        return walks;
    }

    /** Sets are of told METERS alone, and a WALK starts at METER 0. */
    private boolean isWalkable(int set) {
        return town.meterCount > 0 && set >= 0 && set < 1 << town.meterCount;
    }

    public int walk(int set) {
        return isWalkable(set) ? walkedPast(set).minutes(set) : NONE_SUCH;
    }

    public int step(int set, int i) {
        if (!isWalkable(set)) {
            return NONE_SUCH;
        }
        if (i < 0 || i >= Integer.bitCount(set)) {
            return NONE;
        }
        return walkedPast(set).meterAlong(set, i);
    }

    public int round(int minutes, int day) {
        if (!isDay(day) || !isWithin(minutes, 0, 9999) || town.meterCount == 0) {
            return NONE_SUCH;
        }
        Walks w = walkedPast((1 << town.meterCount) - 1);
        for (int m = 0; m < town.meterCount; m++) {
            w.gains[m] = unlikeWheels(m, day);
        }
        return w.bestRound(minutes);
    }

    // ---- bills

    public int bill(int litres, int year) {
        if (!isWithin(litres, 0, 1000000) || !isWithin(year, 0, YEARS - 1)) {
            return NONE_SUCH;
        }
        Tariff tariff = town.tariffs[year];
        return tariff.told ? tariff.billOf(litres) : HAS_NOTHING;
    }

    public int billed(int meter, int from, int to) {
        if (!isMeter(meter) || !isSpan(from, to)) {
            return NONE_SUCH;
        }
        int former = readings.numberAt(meter, from - 1);
        int latter = readings.numberAt(meter, to - 1);
        Tariff tariff = town.tariffs[yearOf(from)];
        if (former == NONE || latter == NONE || !tariff.told) {
            return NONE;
        }
        return tariff.billOf(countedFrom(meter, former, latter));
    }

    public int owed(int meter, int from, int to, int what) {
        if (!isWithin(what, 0, 1)) {
            return NOTHING;
        }
        int billed = billed(meter, from, to);
        if (billed < 0) {
            return NOTHING;
        }
        int used = balance(meter, from, to, 1 - what);
        if (used < 0) {
            return NOTHING;
        }
        return billed - town.tariffs[yearOf(from)].billOf(used);
    }

    public int appeal(int meter, int from, int to) {
        int billed = billed(meter, from, to);
        if (billed < 0) {
            return NOTHING;
        }
        int through = stretches.total(stretches.through[meter], from, to);
        return billed - town.tariffs[yearOf(from)].billOf(through);
    }

    public int share(int meter, int from, int to, int what) {
        if (!isMeter(meter) || !isSpan(from, to) || !isWithin(what, 0, 2)
                || town.meters[meter].homes <= 0) {
            return NONE_SUCH;
        }
        int billed = billed(meter, from, to);
        if (billed < 0) {
            return NONE;
        }
        Meter m = town.meters[meter];
        int landlords = (int) ((long) billed * m.landlord / 100);
        int each = (billed - landlords) / m.homes;
        switch (what) {
            case 0:
                return each;
            case 1:
                return landlords;
            default:
                return billed - landlords - each * m.homes;
        }
    }

    // ---- which METERS to change

    private int wonBy(int meter, int day) {
        return Math.max(0, YEAR_DAYS * (throughOn(meter, day) - turnsOn(meter, day)));
    }

    public int change(int pence, int day) {
        if (!isDay(day) || !isWithin(pence, 0, 99999)) {
            return NONE_SUCH;
        }
        for (int m = 0; m < town.meterCount; m++) {
            walks.gains[m] = wonBy(m, day);
            walks.costs[m] = 200 + 100 * town.meters[m].digits;
        }
        return walks.bestBuy(pence, town.meterCount);
    }

    public int won(int meter, int day) {
        if (!isMeter(meter) || !isDay(day)) {
            return NONE_SUCH;
        }
        return wonBy(meter, day);
    }

    // ---- night, rods, droughts

    public int night(int meter, int day) {
        if (!isMeter(meter) || !isDay(day)) {
            return NONE_SUCH;
        }
        return nightFlow(meter, day);
    }

    /** Of a DAY ahead of all of them it is 0, since no LEAK has begun. */
    private int nightFlow(int meter, int day) {
        int sum = 0;
        for (int i = 0; i < town.leakCount; i++) {
            Event leak = town.leaks[i];
            if (leak.from <= day && town.isBelow(leak.meter, meter)) {
                sum += leak.amount;
            }
        }
        return sum;
    }

    private int loudness(int meter, int day) {
        int sum = 0;
        for (int i = 0; i < town.leakCount; i++) {
            Event leak = town.leaks[i];
            if (leak.from <= day) {
                sum += leak.amount / (1 + town.minutesBetween(leak.meter, meter));
            }
        }
        return sum;
    }

    public int rod(int meter, int day) {
        if (!isMeter(meter) || !isDay(day)) {
            return NONE_SUCH;
        }
        return loudness(meter, day);
    }

    public int loudest(int day) {
        if (!isDay(day)) {
            return NONE_SUCH;
        }
        int best = NONE;
        int most = 0;
        for (int m = 0; m < town.meterCount; m++) {
            int loud = loudness(m, day);
            if (loud > most) {
                most = loud;
                best = m;
            }
        }
        return best;
    }

    public int burst(int meter, int day) {
        if (!isMeter(meter) || !isDay(day)) {
            return NOTHING;
        }
        return nightFlow(meter, day) - nightFlow(meter, day - 1);
    }

    public int bursts(int meter, int i) {
        if (!isMeter(meter) || i < 0) {
            return NONE_SUCH;
        }
        int day = NONE;
        for (int k = 0; k <= i && k <= EVENTS_MOST; k++) {
            day = burstBehind(meter, day);
            if (day == NONE) {
                return NONE;
            }
        }
        return i <= EVENTS_MOST ? day : NONE;
    }

    /** Night flow rises on just those DAYS on which a LEAK below begins. */
    private int burstBehind(int meter, int day) {
        int first = NONE;
        for (int i = 0; i < town.leakCount; i++) {
            Event leak = town.leaks[i];
            if (leak.from > day && (first == NONE || leak.from < first)
                    && town.isBelow(leak.meter, meter)) {
                first = leak.from;
            }
        }
        return first;
    }

    public int drought(int litres, int day) {
        if (!isDay(day) || !isWithin(litres, 0, 9999)) {
            return NONE_SUCH;
        }
        int bits = 0;
        for (int m = 0; m < town.meterCount; m++) {
            if (town.ownUse(m, day) > litres) {
                bits |= 1 << m;
            }
        }
        return bits;
    }

    public int limit(int sum, int day) {
        if (!isDay(day) || !isWithin(sum, 0, 999999)) {
            return NONE_SUCH;
        }
        int low = 0;
        int high = 9999;
        for (int halvings = 0; halvings < 20 && low < high; halvings++) {
            int middle = (low + high + 1) / 2;
            if (usedUnder(middle, day) <= sum) {
                low = middle;
            } else {
                high = middle - 1;
            }
        }
        return low;
    }

    private int usedUnder(int litres, int day) {
        int sum = 0;
        for (int m = 0; m < town.meterCount; m++) {
            sum += Math.min(litres, town.ownUse(m, day));
        }
        return sum;
    }

    public int garden(int meter, int year) {
        if (!isMeter(meter) || !isWithin(year, 0, YEARS - 1)) {
            return NONE_SUCH;
        }
        int from = year * YEAR_DAYS + SUMMER_FROM;
        int to = year * YEAR_DAYS + SUMMER_TO;
        return town.meters[meter].summer * (to - from - vacantDays(meter, from, to));
    }

    public int vacant(int meter) {
        return isMeter(meter) ? vacantDays(meter, 0, DAYS) : NONE_SUCH;
    }

    private int vacantDays(int meter, int from, int to) {
        int days = 0;
        for (int day = from; day < to; day++) {
            if (town.isEmptyOn(meter, day)) {
                days++;
            }
        }
        return days;
    }

    // ---- how far from the truth

    public int errors(int sort, int what) {
        if (!isWithin(sort, 0, SORTS - 1) || !isWithin(what, 0, 3)) {
            return NONE_SUCH;
        }
        int many = 0;
        int wrong = 0;
        int together = 0;
        int greatest = 0;
        for (int i = 0; i < readings.count; i++) {
            if (readings.sorts[i] == sort) {
                int far = errorOf(i);
                many++;
                wrong += far == 0 ? 0 : 1;
                together += far;
                greatest = Math.max(greatest, far);
            }
        }
        switch (what) {
            case 0:
                return many;
            case 1:
                return wrong;
            case 2:
                return together;
            default:
                return greatest;
        }
    }

    private int errorOf(int i) {
        int meter = readings.meters[i];
        if (!isMeter(meter)) {
            return 0;
        }
        tallyBy(meter, town.meters[meter].fault);
        int shows = talliedWheel(meter, readings.days[i]);
        int up = town.meters[meter].countedFrom(shows, readings.wheels[i]);
        int down = town.meters[meter].countedFrom(readings.wheels[i], shows);
        return Math.min(up, down);
    }

    public int off(int meter, int day) {
        if (!isMeter(meter) || !isDay(day)) {
            return NOTHING;
        }
        return offBy(meter, day);
    }

    private int offBy(int meter, int day) {
        int through = throughOn(meter, day);
        if (through == 0) {
            return NOTHING;
        }
        return 1000 * (turnsOn(meter, day) - through) / through;
    }

    /** Above or below; 0, if it can't be told. */
    private int offEitherWay(int meter, int day) {
        int off = offBy(meter, day);
        return off == NOTHING ? 0 : Math.abs(off);
    }

    public int worst(int day) {
        if (!isDay(day)) {
            return NONE_SUCH;
        }
        int best = NONE;
        int most = 0;
        for (int m = 0; m < town.meterCount; m++) {
            int off = offEitherWay(m, day);
            if (off > most) {
                most = off;
                best = m;
            }
        }
        return best;
    }

    public int lot(int seed, int n, int day, int bound) {
        if (!isWithin(seed, 0, 2000000000) || !isWithin(n, 1, town.meterCount) || !isDay(day)
                || !isWithin(bound, 0, 9999)) {
            return NONE_SUCH;
        }
        for (int m = 0; m < town.meterCount; m++) {
            pool[m] = m;
        }
        long x = seed;
        int many = 0;
        int left = town.meterCount;
        for (int i = 0; i < n && left > 0; i++) {
            x = (1103515245L * x + 12345L) % 2147483648L;
            int drawn = (int) (x / 65536L % left);
            if (offEitherWay(pool[drawn], day) > bound) {
                many++;
            }
            left--;
            System.arraycopy(pool, drawn + 1, pool, drawn, left - drawn);
        }
        return many;
    }

    // ---- more of READINGS

    public int missed(int meter) {
        if (!isMeter(meter)) {
            return NONE_SUCH;
        }
        int most = NONE;
        int last = NONE;
        for (int i = 0; i < readings.count; i++) {
            if (readings.isFirm(meter, i)) {
                if (last != NONE) {
                    most = Math.max(most, readings.days[i] - readings.days[last]);
                }
                last = i;
            }
        }
        return most;
    }

    public int guess(int meter, int day) {
        if (!isMeter(meter) || !isDay(day)) {
            return NONE_SUCH;
        }
        int latter = readings.latestFirm(meter, day);
        if (latter == NONE) {
            return NONE;
        }
        int former = readings.latestFirm(meter, readings.days[latter] - 1);
        if (former == NONE) {
            return NONE;
        }
        long between = readings.days[latter] - readings.days[former];
        if (between <= 0) {
            return NONE;
        }
        long behind = day - readings.days[latter];
        long more = countedFrom(meter, former, latter) * behind / between;
        return (int) ((readings.wheels[latter] + more) % town.meters[meter].modulus);
    }

    // ---- counts and IMAGES

    public int count(int what) {
        switch (what) {
            case 0:
                return town.meterCount;
            case 1:
                return town.leakCount;
            case 2:
                return readings.count;
            case 3:
                return (town.tariffs[0].told ? 1 : 0) + (town.tariffs[1].told ? 1 : 0);
            case 4:
                return town.lines;
            case 5:
                return tapeLength;
            case 6:
                return rowsHeld();
            default:
                return NONE;
        }
    }

    private int rowsHeld() {
        int many = 0;
        for (int i = 0; i < SLOTS; i++) {
            many += slots[i].hasRow ? 1 : 0;
        }
        return many;
    }

    public int keep(int k) {
        if (!isWithin(k, 0, IMAGES - 1)) {
            return NONE_SUCH;
        }
        if (keptTowns[k] == null) {
            keptTowns[k] = new Town();
        }
        if (keptReadings[k] == null) {
            keptReadings[k] = new Readings();
        }
        keptTowns[k].copyFrom(town);
        keptReadings[k].copyFrom(readings);
        return 0;
    }

    public int back(int k) {
        if (!isWithin(k, 0, IMAGES - 1)) {
            return NONE_SUCH;
        }
        if (keptTowns[k] == null || keptReadings[k] == null) {
            return HAS_NOTHING;
        }
        town.copyFrom(keptTowns[k]);
        readings.copyFrom(keptReadings[k]);
        lookAnew();
        return 0;
    }

    // ---- SLOTS

    private static boolean isSlot(int slot) {
        return slot >= 0 && slot < SLOTS;
    }

    public int judge(int slot, int meter, int day) {
        if (!isSlot(slot) || !isMeter(meter) || !isDay(day)) {
            return NONE_SUCH;
        }
        Slot s = slots[slot];
        if (!s.hasRow) {
            return HAS_NOTHING;
        }
        tallyBy(meter, town.meters[meter].fault);
        int many = 0;
        while (many < s.length && day + many < DAYS
                && s.numbers[many] == talliedWheel(meter, day + many)) {
            many++;
        }
        return many;
    }

    public int row(int slot, int width, int n) {
        if (!isSlot(slot) || !isWithin(width, 0, 3) || n > ROW_MOST) {
            return NONE_SUCH;
        }
        if (n < 0) {
            return BELOW_ZERO;
        }
        slots[slot].start(width, n);
        return 0;
    }

    public int write(int slot, int i, long v) {
        if (!isSlot(slot)) {
            return NONE_SUCH;
        }
        Slot s = slots[slot];
        if (!s.hasRow) {
            return HAS_NOTHING;
        }
        if (i < 0 || i >= s.length) {
            return BEYOND_ROW;
        }
        s.numbers[i] = s.cut(v);
        return 0;
    }

    public int paste(int slot, int i, int to, int k, int n) {
        if (!isSlot(slot) || !isSlot(to)) {
            return NONE_SUCH;
        }
        Slot source = slots[slot];
        Slot target = slots[to];
        if (!source.hasRow || !target.hasRow) {
            return HAS_NOTHING;
        }
        if (source.width != target.width) {
            return OTHER_WIDTH;
        }
        if (i < 0 || k < 0 || n < 0 || i > source.length - n || k > target.length - n) {
            return BEYOND_ROW;
        }
        System.arraycopy(source.numbers, i, target.numbers, k, n);
        return 0;
    }

    // ---- the parts of a TOWN

    private static final class Meter {
        static final int[] POWERS = {1, 10, 100, 1000, 10000, 100000, 1000000};

        int parent = NONE;
        int use = 0;
        int summer = 0;
        int digits = 3;
        /** 10 to the DIGITS: what the WHEEL goes over its end at, 1000 at least. */
        int modulus = 1000;
        int start = 0;
        int age = 0;
        int x = 0;
        int y = 0;
        int fault = 0;
        int homes = 0;
        int landlord = 0;

        void copyFrom(Meter other) {
            parent = other.parent;
            use = other.use;
            summer = other.summer;
            digits = other.digits;
            modulus = other.modulus;
            start = other.start;
            age = other.age;
            x = other.x;
            y = other.y;
            fault = other.fault;
            homes = other.homes;
            landlord = other.landlord;
        }

        static int powerOfTen(int n) {
            return n >= 0 && n < POWERS.length ? POWERS[n] : 1;
        }

        int shownAfter(int turns) {
            return Math.floorMod(start + turns, modulus);
        }

        int countedFrom(int former, int latter) {
            return Math.floorMod(latter - former, modulus);
        }
    }

    /** A LEAK (amount a day, from its DAY on), a FLUSH (amount, on a DAY) or an EMPTY. */
    private static final class Event {
        int meter = 0;
        int amount = 0;
        int from = 0;
        int to = 0;

        void copyFrom(Event other) {
            meter = other.meter;
            amount = other.amount;
            from = other.from;
            to = other.to;
        }
    }

    private static final class Tariff {
        boolean told = false;
        int standing = 0;
        int first = 0;
        int upto = 0;
        int beyond = 0;

        void copyFrom(Tariff other) {
            told = other.told;
            standing = other.standing;
            first = other.first;
            upto = other.upto;
            beyond = other.beyond;
        }

        int billOf(int litres) {
            long cheap = Math.min(litres, upto);
            return (int) (standing + (first * cheap + beyond * (litres - cheap)) / 1000);
        }
    }

    private static final class Town {
        final Meter[] meters = new Meter[METERS_MOST];
        int meterCount = 0;
        final Event[] leaks = new Event[EVENTS_MOST];
        int leakCount = 0;
        final Event[] flushes = new Event[EVENTS_MOST];
        int flushCount = 0;
        final Event[] empties = new Event[EVENTS_MOST];
        int emptyCount = 0;
        final Tariff[] tariffs = new Tariff[YEARS];
        int lines = 0;

        Town() {
            for (int i = 0; i < METERS_MOST; i++) {
                meters[i] = new Meter();
            }
            for (int i = 0; i < EVENTS_MOST; i++) {
                leaks[i] = new Event();
                flushes[i] = new Event();
                empties[i] = new Event();
            }
            for (int i = 0; i < YEARS; i++) {
                tariffs[i] = new Tariff();
            }
        }

        void clear() {
            meterCount = 0;
            leakCount = 0;
            flushCount = 0;
            emptyCount = 0;
            lines = 0;
            for (int i = 0; i < YEARS; i++) {
                tariffs[i].told = false;
            }
        }

        void copyFrom(Town other) {
            meterCount = other.meterCount;
            leakCount = other.leakCount;
            flushCount = other.flushCount;
            emptyCount = other.emptyCount;
            lines = other.lines;
            for (int i = 0; i < METERS_MOST; i++) {
                meters[i].copyFrom(other.meters[i]);
            }
            for (int i = 0; i < EVENTS_MOST; i++) {
                leaks[i].copyFrom(other.leaks[i]);
                flushes[i].copyFrom(other.flushes[i]);
                empties[i].copyFrom(other.empties[i]);
            }
            for (int i = 0; i < YEARS; i++) {
                tariffs[i].copyFrom(other.tariffs[i]);
            }
        }

        boolean isEmptyOn(int meter, int day) {
            for (int i = 0; i < emptyCount; i++) {
                Event e = empties[i];
                if (e.meter == meter && e.from <= day && day <= e.to) {
                    return true;
                }
            }
            return false;
        }

        int ownUse(int meter, int day) {
            if (isEmptyOn(meter, day)) {
                return 0;
            }
            int ofYear = day % YEAR_DAYS;
            boolean isSummer = ofYear >= SUMMER_FROM && ofYear < SUMMER_TO;
            return meters[meter].use + (isSummer ? meters[meter].summer : 0);
        }

        int leakedAhead(int meter, int day) {
            int sum = 0;
            for (int i = 0; i < leakCount; i++) {
                if (leaks[i].meter == meter && leaks[i].from <= day) {
                    sum += leaks[i].amount;
                }
            }
            return sum;
        }

        int flushedAhead(int meter, int day) {
            int sum = 0;
            for (int i = 0; i < flushCount; i++) {
                if (flushes[i].meter == meter && flushes[i].from == day) {
                    sum += flushes[i].amount;
                }
            }
            return sum;
        }

        /** Whether a PIPE ahead of a METER is fed through another one. */
        boolean isBelow(int meter, int above) {
            return (aboves(meter) & 1 << above) != 0;
        }

        /** All METERS above a METER, as bits; each is told ahead of what hangs below it. */
        int aboves(int meter) {
            int bits = 0;
            int at = meters[meter].parent;
            for (int i = 0; i < METERS_MOST && at >= 0; i++) {
                bits |= 1 << at;
                at = meters[at].parent;
            }
            return bits;
        }

        boolean hasBelow(int meter) {
            for (int m = meter + 1; m < meterCount; m++) {
                if (meters[m].parent == meter) {
                    return true;
                }
            }
            return false;
        }

        int minutesBetween(int a, int b) {
            return Math.abs(meters[a].x - meters[b].x) + Math.abs(meters[a].y - meters[b].y);
        }
    }

    /**
     * Reads a text, line by line. Behind the first FAULT nothing more is taken, so that what is
     * asked for can stand in one row without a test behind each part.
     */
    private static final class Parser {
        static final int END = 0;
        static final int WORD = 1;
        static final int NUMBER = 2;
        static final int SIGN = 3;
        static final int NO_TOKEN = 4;
        /** All numbers above it are out of all bounds, so that it stands for them. */
        static final int NUMBER_CAP = 10000000;

        static final int CANT_STAND = 1;
        static final int OUT_OF_BOUNDS = 2;
        static final int ONE_TOO_MANY = 3;

        byte[] text = new byte[0];
        int length = 0;
        int at = 0;
        int kind = END;
        int from = 0;
        int value = 0;
        int numberFrom = 0;
        int fault = 0;
        int place = NONE;
        /** A draft: it takes the TOWN's place only when the whole text is without a FAULT. */
        Town told = new Town();

        void parse(byte[] bytes, int byteCount) {
            text = bytes;
            length = Math.min(byteCount, bytes.length);
            at = 0;
            fault = 0;
            place = NONE;
            told.clear();
            advance();
            for (int i = 0; i <= length && fault == 0 && kind != END; i++) {
                int start = from;
                if (takesWord("meter")) {
                    meterLine(start);
                } else if (takesWord("leak")) {
                    leakLine(start);
                } else if (takesWord("flush")) {
                    flushLine(start);
                } else if (takesWord("empty")) {
                    emptyLine(start);
                } else if (takesWord("court")) {
                    courtLine();
                } else if (takesWord("tariff")) {
                    tariffLine();
                } else {
                    fail(CANT_STAND, start);
                }
            }
        }

        void fail(int why, int where) {
            if (fault == 0) {
                fault = why;
                place = where;
            }
        }

        boolean isLetterAt(int i) {
            return text[i] >= 'a' && text[i] <= 'z';
        }

        boolean isDigitAt(int i) {
            return text[i] >= '0' && text[i] <= '9';
        }

        boolean isBlankAt(int i) {
            return text[i] == ' ' || text[i] == '\n';
        }

        void advance() {
            while (at < length && isBlankAt(at)) {
                at++;
            }
            from = at;
            if (at >= length) {
                kind = END;
            } else if (isLetterAt(at)) {
                kind = WORD;
                while (at < length && isLetterAt(at)) {
                    at++;
                }
            } else if (isDigitAt(at)) {
                kind = NUMBER;
                value = 0;
                while (at < length && isDigitAt(at)) {
                    value = Math.min(NUMBER_CAP, value * 10 + (text[at] - '0'));
                    at++;
                }
            } else {
                kind = text[at] == ';' ? SIGN : NO_TOKEN;
                at++;
            }
        }

        boolean isWord(String word) {
            if (kind != WORD || at - from != word.length()) {
                return false;
            }
            for (int i = 0; i < word.length(); i++) {
                if (text[from + i] != word.charAt(i)) {
                    return false;
                }
            }
            return true;
        }

        boolean takesWord(String word) {
            if (fault != 0 || !isWord(word)) {
                return false;
            }
            advance();
            return true;
        }

        int number(int least, int greatest) {
            if (fault != 0) {
                return 0;
            }
            if (kind != NUMBER) {
                fail(CANT_STAND, from);
                return 0;
            }
            if (value < least || value > greatest) {
                fail(OUT_OF_BOUNDS, from);
                return 0;
            }
            int taken = value;
            numberFrom = from;
            advance();
            return taken;
        }

        int field(String word, int least, int greatest) {
            if (!takesWord(word)) {
                fail(CANT_STAND, from);
            }
            return number(least, greatest);
        }

        int optionalField(String word, int least, int greatest, int without) {
            return takesWord(word) ? number(least, greatest) : without;
        }

        void closeLine() {
            if (fault == 0 && kind != SIGN) {
                fail(CANT_STAND, from);
            }
            if (fault == 0) {
                advance();
                told.lines++;
            }
        }

        void meterLine(int start) {
            int number = told.meterCount;
            if (number >= METERS_MOST) {
                fail(ONE_TOO_MANY, start);
                return;
            }
            Meter m = told.meters[number];
            m.parent = optionalField("below", 0, number - 1, NONE);
            m.use = field("use", 0, 999);
            m.summer = optionalField("summer", 0, 999, 0);
            m.digits = field("digits", 3, 6);
            m.modulus = Meter.powerOfTen(m.digits);
            m.start = optionalField("start", 0, 999999, 0);
            m.age = field("age", 0, 40);
            m.x = field("at", 0, 99);
            m.y = number(0, 99);
            m.fault = meterFault();
            m.homes = 0;
            m.landlord = 0;
            closeLine();
            told.meterCount = number + 1;
        }

        int meterFault() {
            if (takesWord("crawl")) {
                return 1;
            }
            if (takesWord("stuck")) {
                return 2;
            }
            if (takesWord("backward")) {
                return BACKWARD;
            }
            if (takesWord("half")) {
                return 4;
            }
            if (takesWord("double")) {
                return 5;
            }
            return takesWord("old") ? 6 : 0;
        }

        /** A METER with a PIPE ahead of it, from another one above. */
        int pipedMeter() {
            int m = number(0, told.meterCount - 1);
            if (fault == 0 && told.meters[m].parent == NONE) {
                fail(OUT_OF_BOUNDS, numberFrom);
            }
            return m;
        }

        void leakLine(int start) {
            if (told.leakCount >= EVENTS_MOST) {
                fail(ONE_TOO_MANY, start);
                return;
            }
            Event e = told.leaks[told.leakCount];
            e.meter = pipedMeter();
            e.amount = field("rate", 1, 999);
            e.from = field("since", 0, DAYS - 1);
            e.to = DAYS - 1;
            closeLine();
            told.leakCount++;
        }

        void flushLine(int start) {
            if (told.flushCount >= EVENTS_MOST) {
                fail(ONE_TOO_MANY, start);
                return;
            }
            Event e = told.flushes[told.flushCount];
            e.meter = pipedMeter();
            e.amount = field("litres", 1, 9999);
            e.from = field("on", 0, DAYS - 1);
            e.to = e.from;
            closeLine();
            told.flushCount++;
        }

        void emptyLine(int start) {
            if (told.emptyCount >= EVENTS_MOST) {
                fail(ONE_TOO_MANY, start);
                return;
            }
            Event e = told.empties[told.emptyCount];
            e.meter = number(0, told.meterCount - 1);
            e.amount = 0;
            e.from = field("from", 0, DAYS - 1);
            e.to = field("to", e.from, DAYS - 1);
            closeLine();
            told.emptyCount++;
        }

        void courtLine() {
            int m = number(0, told.meterCount - 1);
            if (fault == 0 && told.meters[m].homes > 0) {
                fail(OUT_OF_BOUNDS, numberFrom);
            }
            int homes = field("homes", 1, 99);
            int landlord = field("landlord", 0, 100);
            closeLine();
            if (fault == 0) {
                told.meters[m].homes = homes;
                told.meters[m].landlord = landlord;
            }
        }

        void tariffLine() {
            Tariff t = told.tariffs[number(0, YEARS - 1)];
            if (fault == 0 && t.told) {
                fail(OUT_OF_BOUNDS, numberFrom);
            }
            t.standing = field("standing", 0, 9999);
            t.first = field("first", 0, 999);
            t.upto = field("upto", 0, 999999);
            t.beyond = field("beyond", 0, 999);
            t.told = true;
            closeLine();
        }
    }

    /** READINGS as they were told; those of one METER stand by DAYS, since each is later. */
    private static final class Readings {
        final int[] meters = new int[READINGS_MOST];
        final int[] days = new int[READINGS_MOST];
        final int[] wheels = new int[READINGS_MOST];
        final int[] sorts = new int[READINGS_MOST];
        int count = 0;

        void copyFrom(Readings other) {
            count = other.count;
            System.arraycopy(other.meters, 0, meters, 0, READINGS_MOST);
            System.arraycopy(other.days, 0, days, 0, READINGS_MOST);
            System.arraycopy(other.wheels, 0, wheels, 0, READINGS_MOST);
            System.arraycopy(other.sorts, 0, sorts, 0, READINGS_MOST);
        }

        int add(int meter, int day, int wheel, int sort) {
            meters[count] = meter;
            days[count] = day;
            wheels[count] = wheel;
            sorts[count] = sort;
            count++;
            return count - 1;
        }

        int latestDay(int meter) {
            for (int i = count - 1; i >= 0; i--) {
                if (meters[i] == meter) {
                    return days[i];
                }
            }
            return NONE;
        }

        boolean isFirm(int meter, int i) {
            return meters[i] == meter && sorts[i] != GUESS;
        }

        int firmBehind(int meter, int number) {
            for (int i = number + 1; i < count; i++) {
                if (isFirm(meter, i)) {
                    return i;
                }
            }
            return NONE;
        }

        int firstFirm(int meter, int day) {
            for (int i = 0; i < count; i++) {
                if (isFirm(meter, i) && days[i] >= day) {
                    return i;
                }
            }
            return NONE;
        }

        int latestFirm(int meter, int day) {
            for (int i = count - 1; i >= 0; i--) {
                if (isFirm(meter, i) && days[i] <= day) {
                    return i;
                }
            }
            return NONE;
        }

        int numberAt(int meter, int day) {
            for (int i = 0; i < count; i++) {
                if (meters[i] == meter && days[i] == day) {
                    return i;
                }
            }
            return NONE;
        }
    }

    // ---- what is worked out of a TOWN

    /**
     * Stretches of DAYS on which nothing changes: what goes through is worked out for each of them
     * instead of each DAY.
     */
    private static final class Stretches {
        /** 6 cuts by YEARS and summers, and 30 by what the TOWN tells. */
        static final int MOST = 36;

        final int[] starts = new int[MOST + 1];
        int many = 0;
        final byte[] ofDay = new byte[DAYS];
        final int[][] own = new int[METERS_MOST][MOST];
        final int[][] ahead = new int[METERS_MOST][MOST];
        final int[][] through = new int[METERS_MOST][MOST];
        /** What goes through without any LEAK. */
        final int[][] dry = new int[METERS_MOST][MOST];

        void lay(Town town) {
            Arrays.fill(ofDay, (byte) 0);
            cutByCalendar();
            cutByEvents(town);
            number();
            for (int m = 0; m < town.meterCount; m++) {
                Arrays.fill(through[m], 0);
                Arrays.fill(dry[m], 0);
            }
            for (int m = town.meterCount - 1; m >= 0; m--) {
                fill(town, m);
            }
        }

        void cutAt(int day) {
            if (day >= 0 && day < DAYS) {
                ofDay[day] = 1;
            }
        }

        void cutByCalendar() {
            for (int first = 0; first < DAYS; first += YEAR_DAYS) {
                cutAt(first);
                cutAt(first + SUMMER_FROM);
                cutAt(first + SUMMER_TO);
            }
        }

        void cutByEvents(Town town) {
            for (int i = 0; i < town.leakCount; i++) {
                cutAt(town.leaks[i].from);
            }
            for (int i = 0; i < town.flushCount; i++) {
                cutAt(town.flushes[i].from);
                cutAt(town.flushes[i].to + 1);
            }
            for (int i = 0; i < town.emptyCount; i++) {
                cutAt(town.empties[i].from);
                cutAt(town.empties[i].to + 1);
            }
        }

        void number() {
            many = 0;
            for (int day = 0; day < DAYS; day++) {
                if (ofDay[day] != 0 && many < MOST) {
                    starts[many] = day;
                    many++;
                }
                ofDay[day] = (byte) Math.max(0, many - 1);
            }
            starts[many] = DAYS;
        }

        /** The METERS below have been filled ahead of it, and have given it what is theirs. */
        void fill(Town town, int meter) {
            int parent = town.meters[meter].parent;
            for (int i = 0; i < many; i++) {
                int day = starts[i];
                int used = town.ownUse(meter, day);
                int flushed = town.flushedAhead(meter, day);
                own[meter][i] = used;
                ahead[meter][i] = town.leakedAhead(meter, day) + flushed;
                through[meter][i] += used;
                dry[meter][i] += used;
                if (parent >= 0) {
                    through[parent][i] += through[meter][i] + ahead[meter][i];
                    dry[parent][i] += dry[meter][i] + flushed;
                }
            }
        }

        int total(int[] flows, int from, int to) {
            int sum = 0;
            for (int i = 0; i < many; i++) {
                int days = Math.min(to, starts[i + 1]) - Math.max(from, starts[i]);
                if (days > 0) {
                    sum += days * flows[i];
                }
            }
            return sum;
        }
    }

    /** All TURNS of a METER from DAY 0 on, by a FAULT. */
    private static final class Tally {
        final int[] daily = new int[Stretches.MOST];
        final int[] before = new int[Stretches.MOST];

        void fill(Stretches s, Meter meter, int fault, int[] flows, int extra) {
            int sum = 0;
            for (int i = 0; i < s.many; i++) {
                int age = meter.age + yearOf(s.starts[i]);
                daily[i] = turnsOf(fault, flows[i] + extra, age);
                before[i] = sum;
                sum += daily[i] * (s.starts[i + 1] - s.starts[i]);
            }
        }

        /** 0 ahead of DAY 0. */
        int upTo(Stretches s, int day) {
            if (day < 0 || day >= DAYS) {
                return 0;
            }
            int i = s.ofDay[day];
            return before[i] + daily[i] * (day - s.starts[i] + 1);
        }

        static int turnsOf(int fault, int flow, int age) {
            switch (fault) {
                case 1:
                    return flow - flow * age / 100;
                case 2:
                    return 0;
                case BACKWARD:
                    return -flow;
                case 4:
                    return flow / 2;
                case 5:
                    return 2 * flow;
                case 6:
                    return 100 * flow / 455;
                default:
                    return flow;
            }
        }
    }

    /**
     * SUPPOSED LEAKS that fit. A LEAK goes through the METERS above its PIPE alone, and through all
     * of them alike: so each METER is asked once for each LEAK below it, wherever below.
     */
    private static final class Supposed {
        static final int RATE_MOST = 40;
        static final int SINCE_STEP = 60;
        static final int SINCES = 13;
        static final int ALL_SINCES = (1 << SINCES) - 1;

        /** By METER and litres, the DAYS (as bits) since which a LEAK below would fit. */
        final int[][] below = new int[METERS_MOST][RATE_MOST + 1];
        /** By METER and litres, the DAYS since which a LEAK ahead of it fits all METERS. */
        final int[][] fitting = new int[METERS_MOST][RATE_MOST + 1];
        final int[] firmDays = new int[READINGS_MOST];
        final int[] firmWheels = new int[READINGS_MOST];
        int firmCount = 0;
        final Tally dry = new Tally();
        final Tally wet = new Tally();
        int many = 0;
        int firstPipe = NONE;
        int firstRate = NONE;
        int firstSince = NONE;
        boolean fresh = false;

        /** What was found stands until the TOWN or READINGS change. */
        void seek(Town town, Readings readings, Stretches s) {
            if (fresh) {
                return;
            }
            many = 0;
            firstPipe = NONE;
            firstRate = NONE;
            firstSince = NONE;
            int unfitDry = 0;
            for (int m = 0; m < town.meterCount; m++) {
                Meter meter = town.meters[m];
                gather(readings, m);
                dry.fill(s, meter, meter.fault, s.dry[m], 0);
                if (!fitsSince(meter, s, DAYS)) {
                    unfitDry |= 1 << m;
                }
                if (town.hasBelow(m)) {
                    fillBelow(meter, s, m);
                }
            }
            for (int m = 0; m < town.meterCount; m++) {
                int aboves = town.aboves(m);
                boolean canFit = aboves != 0 && (unfitDry & ~aboves) == 0;
                fillFitting(m, canFit ? aboves : 0);
            }
            fresh = true;
        }

        void gather(Readings readings, int meter) {
            firmCount = 0;
            for (int i = 0; i < readings.count; i++) {
                if (readings.isFirm(meter, i)) {
                    firmDays[firmCount] = readings.days[i];
                    firmWheels[firmCount] = readings.wheels[i];
                    firmCount++;
                }
            }
        }

        void fillBelow(Meter meter, Stretches s, int number) {
            for (int rate = 1; rate <= RATE_MOST; rate++) {
                int bits = ALL_SINCES;
                if (firmCount > 0) {
                    wet.fill(s, meter, meter.fault, s.dry[number], rate);
                    bits = sincesThatFit(meter, s);
                }
                below[number][rate] = bits;
            }
        }

        int sincesThatFit(Meter meter, Stretches s) {
            int bits = 0;
            for (int k = 0; k < SINCES; k++) {
                if (fitsSince(meter, s, k * SINCE_STEP)) {
                    bits |= 1 << k;
                }
            }
            return bits;
        }

        /** Since DAY 730 there is no LEAK on any DAY. */
        boolean fitsSince(Meter meter, Stretches s, int since) {
            int shift = dry.upTo(s, since - 1) - wet.upTo(s, since - 1);
            for (int i = 0; i < firmCount; i++) {
                int day = firmDays[i];
                int turns = day < since ? dry.upTo(s, day) : shift + wet.upTo(s, day);
                if (meter.shownAfter(turns) != firmWheels[i]) {
                    return false;
                }
            }
            return true;
        }

        /** Without METERS above nothing fits: there is no such PIPE, or another METER forbids it. */
        void fillFitting(int pipe, int aboves) {
            for (int rate = 1; rate <= RATE_MOST; rate++) {
                int bits = aboves == 0 ? 0 : ALL_SINCES;
                for (int m = 0; m < METERS_MOST; m++) {
                    if ((aboves & 1 << m) != 0) {
                        bits &= below[m][rate];
                    }
                }
                fitting[pipe][rate] = bits;
                many += Integer.bitCount(bits);
                if (bits != 0 && firstPipe == NONE) {
                    firstPipe = pipe;
                    firstRate = rate;
                    firstSince = SINCE_STEP * firstBit(bits);
                }
            }
        }

        int rateSpan(int pipe) {
            int least = NONE;
            int greatest = NONE;
            for (int rate = 1; rate <= RATE_MOST; rate++) {
                if (fitting[pipe][rate] != 0) {
                    least = least == NONE ? rate : least;
                    greatest = rate;
                }
            }
            return least == NONE ? NONE : greatest - least;
        }
    }

    /** The fewest minutes past sets of METERS, and the best of all sets. */
    private static final class Walks {
        static final int SETS = 1 << METERS_MOST;
        /** Longer than any way: at most 11 METERS, each 198 minutes from the one ahead. */
        static final int TOO_FAR = 10000;

        /**
         * By set (without METER 0, at which all WALKS start) and METER, the minutes from that METER
         * past the set. The big rows are made when they are asked for first.
         */
        short[] rest = new short[0];
        int[] gainSums = new int[0];
        int[] costSums = new int[0];
        final int[] gains = new int[METERS_MOST];
        final int[] costs = new int[METERS_MOST];
        final int[][] minutes = new int[METERS_MOST][METERS_MOST];
        int meterCount = 0;
        /** The METERS of which all sets are worked out. */
        int readySet = 0;

        void forget() {
            readySet = 0;
        }

        boolean isReady(int set) {
            return readySet != 0 && (set & ~readySet) == 0;
        }

        /** METER 0 is always in the ready set, so that it is never empty. */
        void lay(Town town, int set) {
            if (rest.length == 0) {
                rest = new short[SETS / 2 * METERS_MOST];
            }
            readySet |= set | 1;
            meterCount = town.meterCount;
            for (int a = 0; a < meterCount; a++) {
                for (int b = 0; b < meterCount; b++) {
                    minutes[a][b] = town.minutesBetween(a, b);
                }
            }
            int all = readySet >> 1;
            int half = 0;
            for (int i = 0; i < 1 << Integer.bitCount(all); i++) {
                layHalf(half);
                half = half - all & all;
            }
        }

        void layHalf(int half) {
            int froms = readySet & ~(half << 1);
            for (int from = 0; from < meterCount; from++) {
                if ((froms >> from & 1) != 0) {
                    rest[half * METERS_MOST + from] = (short) fewestFrom(half, from);
                }
            }
        }

        /** A half is a set without its bit of METER 0, one place down; from is not in it. */
        int fewestFrom(int half, int from) {
            if (half == 0) {
                return 0;
            }
            int fewest = TOO_FAR;
            int left = half;
            for (int i = 0; i < METERS_MOST && left != 0; i++) {
                int next = firstBit(left) + 1;
                fewest = Math.min(fewest, throughNext(half, from, next));
                left &= left - 1;
            }
            return fewest;
        }

        int throughNext(int half, int from, int next) {
            int left = half & ~(1 << next - 1);
            return minutes[from][next] + rest[left * METERS_MOST + next];
        }

        int minutes(int set) {
            return rest[(set >> 1) * METERS_MOST];
        }

        /** METER 0 comes first, if it is in the set: the WALK starts there. */
        int meterAlong(int set, int i) {
            int half = set >> 1;
            int at = 0;
            int stepsLeft = (set & 1) != 0 ? i : i + 1;
            for (int k = 0; k < stepsLeft && k < METERS_MOST && half != 0; k++) {
                at = firstNext(half, at);
                half &= ~(1 << at - 1);
            }
            return at;
        }

        int firstNext(int half, int from) {
            int due = rest[half * METERS_MOST + from];
            for (int m = 1; m < meterCount; m++) {
                if ((half >> m - 1 & 1) != 0 && throughNext(half, from, m) == due) {
                    return m;
                }
            }
            return firstBit(half) + 1;
        }

        void readySums() {
            if (gainSums.length == 0) {
                gainSums = new int[SETS];
                costSums = new int[SETS];
            }
        }

        /** Each set's sum is that of the set without its last METER, and that METER's own. */
        void sumUp(int[] sums, int[] ones, int meters) {
            sums[0] = 0;
            for (int set = 1; set < 1 << meters; set++) {
                sums[set] = sums[set & set - 1] + ones[firstBit(set)];
            }
        }

        int bestRound(int minutesMost) {
            readySums();
            sumUp(gainSums, gains, meterCount);
            for (int set = 0; set < 1 << meterCount; set++) {
                costSums[set] = minutes(set);
            }
            return bestSet(minutesMost, meterCount);
        }

        int bestBuy(int penceMost, int meters) {
            readySums();
            sumUp(gainSums, gains, meters);
            sumUp(costSums, costs, meters);
            return bestSet(penceMost, meters);
        }

        /** The most gained, of several the cheapest, of several the first. */
        int bestSet(int costMost, int meters) {
            int best = 0;
            for (int set = 1; set < 1 << meters; set++) {
                if (costSums[set] <= costMost && (gainSums[set] > gainSums[best]
                        || gainSums[set] == gainSums[best] && costSums[set] < costSums[best])) {
                    best = set;
                }
            }
            return best;
        }
    }

    /** A row of numbers; each is held as it is when cut to the row's WIDTH. */
    private static final class Slot {
        final long[] numbers = new long[ROW_MOST];
        boolean hasRow = false;
        int width = 0;
        int length = 0;

        void start(int newWidth, int newLength) {
            hasRow = true;
            width = newWidth;
            length = newLength;
            Arrays.fill(numbers, 0L);
        }

        long cut(long v) {
            switch (width) {
                case 0:
                    return (byte) v;
                case 1:
                    return (short) v;
                case 2:
                    return (int) v;
                default:
                    return v;
            }
        }
    }
}
