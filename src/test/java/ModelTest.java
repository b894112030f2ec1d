import java.util.ArrayList;
import java.util.Arrays;
import java.util.List;
import java.util.Random;
import java.util.TreeSet;

/** Random towns, readings and calls, against a slow and plain program that goes day by day. */
public final class ModelTest {
    private static final int NONE = -1;
    private static final int NOTHING = -2000000000;
    private static final int RUNS = 1500;
    private static final int CALLS = 200;

    private static int wrong = 0;

    public static void main(String[] args) {
        long seed = args.length > 0 ? Long.parseLong(args[0]) : 20261118L;
        int runs = args.length > 1 ? Integer.parseInt(args[1]) : RUNS;
        int[] answered = new int[Caller.NAMES.length];
        for (int run = 0; run < runs && wrong < 20; run++) {
            Caller caller = new Caller(new Random(seed + run), run, answered);
            caller.run();
        }
        for (int i = 0; i < answered.length; i++) {
            if (answered[i] == 0 && runs >= RUNS) {
                wrong++;
                System.out.println(Caller.NAMES[i] + " was never answered by 0 or more");
            }
        }
        System.out.println(wrong == 0 ? "the class is as the model" : wrong + " answers are not as due");
        if (wrong != 0) {
            System.exit(1);
        }
    }

    // ---------------------------------------------------------------- the model

    private static final class Fault extends RuntimeException {
        private static final long serialVersionUID = 1L;
        final int kind;
        final int place;

        Fault(int kind, int place) {
            this.kind = kind;
            this.place = place;
        }
    }

    private record Token(String text, int place) {
        boolean isNumber() {
            return text.matches("[0-9]+");
        }
    }

    private static final class M {
        int parent = NONE, use, summer, digits, start, age, x, y, fault, homes, landlord;
    }

    private record Ev(int meter, int amount, int from, int to) {
    }

    private record Tar(int standing, int first, int upto, int beyond) {
    }

    private record Rd(int meter, int day, int wheel, int sort) {
    }

    private static final class T {
        final List<M> meters = new ArrayList<>();
        final List<Ev> leaks = new ArrayList<>();
        final List<Ev> flushes = new ArrayList<>();
        final List<Ev> empties = new ArrayList<>();
        final Tar[] tariffs = new Tar[2];
        int lines = 0;
        int[][] throughCache = null;
        int[][] dryCache = null;
    }

    private static final class TextReader {
        final List<Token> tokens = new ArrayList<>();
        int at = 0;
        final T t = new T();

        TextReader(byte[] tape, int length) {
            int i = 0;
            while (i < length) {
                char c = (char) (tape[i] & 255);
                int start = i;
                if (c == 32 || c == 10) {
                    i++;
                    continue;
                }
                if (Character.toString(c).matches("[a-z]")) {
                    while (i < length && Character.toString((char) (tape[i] & 255)).matches("[a-z]")) {
                        i++;
                    }
                } else if (Character.toString(c).matches("[0-9]")) {
                    while (i < length && Character.toString((char) (tape[i] & 255)).matches("[0-9]")) {
                        i++;
                    }
                } else {
                    i++;
                }
                StringBuilder text = new StringBuilder();
                for (int k = start; k < i; k++) {
                    text.append((char) (tape[k] & 255));
                }
                tokens.add(new Token(text.toString(), start));
            }
            tokens.add(new Token("", length));
        }

        Token token() {
            return tokens.get(at);
        }

        boolean maybe(String word) {
            if (token().text.equals(word)) {
                at++;
                return true;
            }
            return false;
        }

        void must(String word) {
            if (!maybe(word)) {
                throw new Fault(1, token().place);
            }
        }

        int num(int low, int high) {
            Token token = token();
            if (!token.isNumber()) {
                throw new Fault(1, token.place);
            }
            java.math.BigInteger v = new java.math.BigInteger(token.text);
            if (v.compareTo(java.math.BigInteger.valueOf(low)) < 0
                    || v.compareTo(java.math.BigInteger.valueOf(high)) > 0) {
                throw new Fault(2, token.place);
            }
            at++;
            return v.intValue();
        }

        int meter(boolean piped) {
            int place = token().place;
            int m = num(0, t.meters.size() - 1);
            if (piped && t.meters.get(m).parent == NONE) {
                throw new Fault(2, place);
            }
            return m;
        }

        int named(String word, int low, int high) {
            must(word);
            return num(low, high);
        }

        T read() {
            while (!token().text.isEmpty()) {
                Token first = token();
                switch (first.text) {
                    case "meter" -> meterLine(first);
                    case "leak" -> {
                        few(t.leaks, first);
                        int m = meter(true);
                        int rate = named("rate", 1, 999);
                        t.leaks.add(new Ev(m, rate, named("since", 0, 729), 729));
                    }
                    case "flush" -> {
                        few(t.flushes, first);
                        int m = meter(true);
                        int litres = named("litres", 1, 9999);
                        int on = named("on", 0, 729);
                        t.flushes.add(new Ev(m, litres, on, on));
                    }
                    case "empty" -> {
                        few(t.empties, first);
                        int m = meter(false);
                        int from = named("from", 0, 729);
                        t.empties.add(new Ev(m, 0, from, named("to", from, 729)));
                    }
                    case "court" -> courtLine();
                    case "tariff" -> tariffLine();
                    default -> throw new Fault(1, first.place);
                }
                must(";");
                t.lines++;
            }
            return t;
        }

        void few(List<Ev> events, Token first) {
            if (events.size() == 6) {
                throw new Fault(3, first.place);
            }
            at++;
        }

        void meterLine(Token first) {
            if (t.meters.size() == 12) {
                throw new Fault(3, first.place);
            }
            at++;
            M m = new M();
            if (maybe("below")) {
                m.parent = num(0, t.meters.size() - 1);
            }
            m.use = named("use", 0, 999);
            m.summer = maybe("summer") ? num(0, 999) : 0;
            m.digits = named("digits", 3, 6);
            m.start = maybe("start") ? num(0, 999999) : 0;
            m.age = named("age", 0, 40);
            m.x = named("at", 0, 99);
            m.y = num(0, 99);
            String[] faults = {"crawl", "stuck", "backward", "half", "double", "old"};
            for (int f = 0; f < 6 && m.fault == 0; f++) {
                if (maybe(faults[f])) {
                    m.fault = f + 1;
                }
            }
            t.meters.add(m);
        }

        void courtLine() {
            at++;
            int place = token().place;
            M m = t.meters.isEmpty() ? null : t.meters.get(meter(false));
            if (m == null) {
                num(0, -1);
                return;
            }
            if (m.homes != 0) {
                throw new Fault(2, place);
            }
            m.homes = named("homes", 1, 99);
            m.landlord = named("landlord", 0, 100);
        }

        void tariffLine() {
            at++;
            int place = token().place;
            int year = num(0, 1);
            if (t.tariffs[year] != null) {
                throw new Fault(2, place);
            }
            int standing = named("standing", 0, 9999);
            int first = named("first", 0, 999);
            int upto = named("upto", 0, 999999);
            t.tariffs[year] = new Tar(standing, first, upto, named("beyond", 0, 999));
        }
    }

    private static final class Model {
        byte[] tape = new byte[1200];
        int length = 0;
        T t = new T();
        List<Rd> rds = new ArrayList<>();
        int fault = 0;
        int place = NONE;
        final T[] keptTowns = new T[3];
        final List<List<Rd>> keptRds = new ArrayList<>(Arrays.asList(null, null, null));
        final Object[] rows = new Object[4];

        int feed(int a, int b, int c, int d, int e) {
            if (length + 20 > 1200) {
                return NONE;
            }
            for (int v : new int[] {a, b, c, d, e}) {
                tape[length++] = (byte) (v >>> 24);
                tape[length++] = (byte) (v >>> 16);
                tape[length++] = (byte) (v >>> 8);
                tape[length++] = (byte) v;
            }
            return length;
        }

        int end(int n) {
            if (n < 0 || n > length) {
                return NONE;
            }
            return length = n;
        }

        int town() {
            try {
                T read = new TextReader(tape, length).read();
                fault = 0;
                place = NONE;
                t = read;
                rds = new ArrayList<>();
                length = 0;
                return t.lines;
            } catch (Fault f) {
                fault = f.kind;
                place = f.place;
                return -4;
            }
        }

        boolean bad(int meter) {
            return meter < 0 || meter >= t.meters.size();
        }

        boolean badDay(int day) {
            return day < 0 || day > 729;
        }

        boolean badSpan(int from, int to) {
            return from < 0 || to > 730 || from >= to;
        }

        boolean empty(int meter, int day) {
            return t.empties.stream().anyMatch(e -> e.meter == meter && day >= e.from && day <= e.to);
        }

        int own(int meter, int day) {
            M m = t.meters.get(meter);
            int r = day % 365;
            return empty(meter, day) ? 0 : m.use + (r >= 150 && r <= 239 ? m.summer : 0);
        }

        int leaksAhead(List<Ev> leaks, int meter, int day) {
            return leaks.stream().filter(e -> e.meter == meter && day >= e.from).mapToInt(Ev::amount).sum();
        }

        int flushAhead(int meter, int day) {
            return t.flushes.stream().filter(e -> e.meter == meter && day == e.from).mapToInt(Ev::amount).sum();
        }

        int ahead(int meter, int day) {
            return leaksAhead(t.leaks, meter, day) + flushAhead(meter, day);
        }

        int through(List<Ev> leaks, int meter, int day) {
            int sum = own(meter, day);
            for (int c = 0; c < t.meters.size(); c++) {
                if (t.meters.get(c).parent == meter) {
                    sum += through(leaks, c, day) + leaksAhead(leaks, c, day) + flushAhead(c, day);
                }
            }
            return sum;
        }

        int through(int meter, int day) {
            if (t.throughCache == null) {
                t.throughCache = allThrough(t.leaks);
            }
            return t.throughCache[meter][day];
        }

        int[][] allThrough(List<Ev> leaks) {
            int[][] all = new int[t.meters.size()][730];
            for (int m = 0; m < all.length; m++) {
                for (int d = 0; d < 730; d++) {
                    all[m][d] = through(leaks, m, d);
                }
            }
            return all;
        }

        int turns(int fault, int f, int age) {
            return switch (fault) {
                case 1 -> f - (int) Math.floor(f * (double) age / 100 + 1e-9);
                case 2 -> 0;
                case 3 -> -f;
                case 4 -> f / 2;
                case 5 -> f + f;
                case 6 -> (int) (100L * f / 455);
                default -> f;
            };
        }

        int turns(int meter, int day, int fault, int f) {
            return turns(fault, f, t.meters.get(meter).age + (day >= 365 ? 1 : 0));
        }

        int mod(int meter) {
            return Integer.parseInt("1" + "0".repeat(t.meters.get(meter).digits));
        }

        int wheel(int meter, int day, int fault, int[] flows) {
            long sum = t.meters.get(meter).start;
            for (int d = 0; d <= day; d++) {
                sum += turns(meter, d, fault, flows[d]);
            }
            long r = sum % mod(meter);
            return (int) (r < 0 ? r + mod(meter) : r);
        }

        int wheelBy(int meter, int day, int fault) {
            through(meter, day);
            return wheel(meter, day, fault, t.throughCache[meter]);
        }

        int trueWheel(int meter, int day) {
            return wheelBy(meter, day, t.meters.get(meter).fault);
        }

        int flow(int meter, int day, int what) {
            if (bad(meter) || badDay(day) || what < 0 || what > 3) {
                return -2;
            }
            int[] all = {own(meter, day), through(meter, day), ahead(meter, day), 0};
            all[3] = all[1] + all[2];
            return all[what];
        }

        int turned(int meter, int day) {
            return bad(meter) || badDay(day) ? NOTHING
                    : turns(meter, day, t.meters.get(meter).fault, through(meter, day));
        }

        int wheel(int meter, int day) {
            return bad(meter) || badDay(day) ? -2 : trueWheel(meter, day);
        }

        int reading(int meter, int day, int wheel, int sort) {
            if (bad(meter) || badDay(day) || wheel < 0 || wheel >= mod(meter) || sort < 0 || sort > 2) {
                return -2;
            }
            if (rds.size() == 120) {
                return -3;
            }
            if (rds.stream().anyMatch(r -> r.meter == meter && r.day >= day)) {
                return -5;
            }
            rds.add(new Rd(meter, day, wheel, sort));
            return rds.size() - 1;
        }

        int read(int meter, int day, int swapped) {
            if (bad(meter) || badDay(day) || swapped < -1 || swapped > t.meters.get(meter).digits - 2) {
                return -2;
            }
            StringBuilder s = new StringBuilder(Integer.toString(mod(meter) + trueWheel(meter, day)));
            if (swapped >= 0) {
                int a = s.length() - 1 - swapped;
                char c = s.charAt(a);
                s.setCharAt(a, s.charAt(a - 1));
                s.setCharAt(a - 1, c);
            }
            return reading(meter, day, Integer.parseInt(s.substring(1)), 0);
        }

        int undo(int n) {
            if (n < 0 || n > rds.size()) {
                return -2;
            }
            rds = new ArrayList<>(rds.subList(0, rds.size() - n));
            return rds.size();
        }

        int told(int i, int what) {
            if (i < 0 || i >= rds.size() || what < 0 || what > 3) {
                return NONE;
            }
            Rd r = rds.get(i);
            return new int[] {r.meter, r.day, r.wheel, r.sort}[what];
        }

        List<Rd> firm(int meter) {
            return rds.stream().filter(r -> r.meter == meter && r.sort != 2).toList();
        }

        int readings(int meter, int what) {
            if (bad(meter) || what < 0 || what > 1) {
                return -2;
            }
            int firm = firm(meter).size();
            return what == 0 ? firm : (int) rds.stream().filter(r -> r.meter == meter).count() - firm;
        }

        int between(int meter, Rd a, Rd b) {
            return b.wheel >= a.wheel ? b.wheel - a.wheel : b.wheel + mod(meter) - a.wheel;
        }

        int counted(int meter, int i) {
            if (bad(meter) || i < 0) {
                return -2;
            }
            List<Rd> f = firm(meter);
            return i >= f.size() - 1 ? NONE : between(meter, f.get(i), f.get(i + 1));
        }

        int sum(int meter, Rd from, Rd to) {
            List<Rd> f = firm(meter);
            int sum = 0;
            for (int i = f.indexOf(from); i < f.indexOf(to); i++) {
                sum += between(meter, f.get(i), f.get(i + 1));
            }
            return sum;
        }

        Rd latest(int meter, int day) {
            List<Rd> f = firm(meter).stream().filter(r -> r.day <= day).toList();
            return f.isEmpty() ? null : f.get(f.size() - 1);
        }

        Rd first(int meter, int day) {
            List<Rd> f = firm(meter).stream().filter(r -> r.day >= day).toList();
            return f.isEmpty() ? null : f.get(0);
        }

        int balance(int meter, int from, int to, int what) {
            if (bad(meter) || badSpan(from, to) || what < 0 || what > 1) {
                return -2;
            }
            Rd a = what == 1 ? latest(meter, from - 1) : first(meter, from - 1);
            Rd b = what == 1 ? first(meter, to - 1) : latest(meter, to - 1);
            if (a == null || b == null) {
                return what == 1 ? NONE : 0;
            }
            return a.day < b.day ? sum(meter, a, b) : 0;
        }

        int lost(int meter, int from, int to, int what) {
            int sum = balance(meter, from, to, what);
            if (sum < 0) {
                return NOTHING;
            }
            for (int d = from; d < to; d++) {
                sum -= own(meter, d);
            }
            for (int c = 0; c < t.meters.size(); c++) {
                if (t.meters.get(c).parent == meter) {
                    int b = balance(c, from, to, what == 0 ? 1 : 0);
                    if (b < 0) {
                        return NOTHING;
                    }
                    sum -= b;
                }
            }
            return sum;
        }

        boolean fits(int meter, int fault) {
            return firm(meter).stream().allMatch(r -> wheelBy(meter, r.day, fault) == r.wheel);
        }

        int fits(int meter) {
            if (bad(meter)) {
                return -2;
            }
            int bits = 0;
            for (int f = 0; f < 7; f++) {
                bits += fits(meter, f) ? 1 << f : 0;
            }
            return bits;
        }

        /** How many choices there are with 0, 1, .. METERS of a FAULT other than 0. */
        long[] choices(int fixedMeter, int fixedFault) {
            long[] by = new long[14];
            by[0] = 1;
            for (int m = 0; m < t.meters.size(); m++) {
                long[] more = new long[14];
                for (int f = 0; f < 7; f++) {
                    if (fits(m, f) && (m != fixedMeter || f == fixedFault)) {
                        for (int k = 0; k < 13; k++) {
                            more[k + (f == 0 ? 0 : 1)] += by[k];
                        }
                    }
                }
                by = more;
            }
            return by;
        }

        int fewest() {
            long[] by = choices(-1, 0);
            for (int k = 0; k < by.length; k++) {
                if (by[k] > 0) {
                    return k;
                }
            }
            return NONE;
        }

        int sets() {
            int k = fewest();
            return k < 0 ? 0 : (int) Math.min(1000000, choices(-1, 0)[k]);
        }

        int alone(int meter) {
            int k = fewest();
            if (bad(meter) || k < 0) {
                return NONE;
            }
            int only = NONE;
            for (int f = 0; f < 7; f++) {
                if (choices(meter, f)[k] > 0) {
                    if (only != NONE) {
                        return NONE;
                    }
                    only = f;
                }
            }
            return only;
        }

        int ways(int meter) {
            int bits = fits(meter);
            return bits == -2 ? -2 : (bits & 8) == 0 ? NONE : Integer.bitCount(bits & ~8);
        }

        List<int[]> supposed() {
            List<int[]> all = new ArrayList<>();
            for (int m = 0; m < t.meters.size(); m++) {
                if (t.meters.get(m).parent != NONE) {
                    for (int r = 1; r <= 40; r++) {
                        for (int s = 0; s <= 720; s += 60) {
                            if (fitsSupposed(m, r, s)) {
                                all.add(new int[] {m, r, s});
                            }
                        }
                    }
                }
            }
            return all;
        }

        boolean fitsSupposed(int meter, int rate, int since) {
            if (t.dryCache == null) {
                t.dryCache = allThrough(List.of());
            }
            int[][] flows = new int[t.meters.size()][];
            for (int m = 0; m < flows.length; m++) {
                flows[m] = t.dryCache[m].clone();
            }
            for (int m = t.meters.get(meter).parent; m != NONE; m = t.meters.get(m).parent) {
                for (int d = since; d < 730; d++) {
                    flows[m][d] += rate;
                }
            }
            for (Rd r : rds) {
                if (r.sort != 2
                        && wheel(r.meter, r.day, t.meters.get(r.meter).fault, flows[r.meter]) != r.wheel) {
                    return false;
                }
            }
            return true;
        }

        int leak(int what) {
            if (what < 0 || what > 3) {
                return NONE;
            }
            List<int[]> all = supposed();
            return what == 3 ? all.size() : all.isEmpty() ? NONE : all.get(0)[what];
        }

        int span(int meter) {
            if (bad(meter)) {
                return -2;
            }
            int[] rates = supposed().stream().filter(s -> s[0] == meter).mapToInt(s -> s[1]).toArray();
            return rates.length == 0 ? NONE
                    : Arrays.stream(rates).max().getAsInt() - Arrays.stream(rates).min().getAsInt();
        }

        int unlike(int meter, int day) {
            if (bad(meter) || badDay(day)) {
                return -2;
            }
            TreeSet<Integer> shown = new TreeSet<>();
            for (int f = 0; f < 7; f++) {
                if (fits(meter, f)) {
                    shown.add(wheelBy(meter, day, f));
                }
            }
            return shown.size();
        }

        int next(int day) {
            if (badDay(day)) {
                return -2;
            }
            int best = NONE;
            for (int m = 0; m < t.meters.size(); m++) {
                int meter = m;
                if (rds.stream().noneMatch(r -> r.meter == meter && r.day >= day)
                        && (best == NONE || unlike(m, day) > unlike(best, day))) {
                    best = m;
                }
            }
            return best;
        }

        int apart(int a, int b) {
            M p = t.meters.get(a);
            M q = t.meters.get(b);
            return Math.abs(p.x - q.x) + Math.abs(p.y - q.y);
        }

        /** All orders, by numbers; the first of the shortest is kept. */
        int[] order;
        int shortest;

        void orders(int set, int at, int minutes, int[] row, int n) {
            if (minutes >= shortest) {
                return;
            }
            if (set == 0) {
                shortest = minutes;
                order = Arrays.copyOf(row, n);
                return;
            }
            for (int m = 0; m < 12; m++) {
                if ((set >> m & 1) != 0) {
                    row[n] = m;
                    orders(set & ~(1 << m), m, minutes + apart(at, m), row, n + 1);
                }
            }
        }

        boolean badSet(int set) {
            return t.meters.isEmpty() || set < 0 || set >= 1 << t.meters.size();
        }

        int walk(int set) {
            if (badSet(set)) {
                return -2;
            }
            shortest = Integer.MAX_VALUE;
            orders(set, 0, 0, new int[12], 0);
            return shortest;
        }

        int step(int set, int i) {
            if (walk(set) == -2) {
                return -2;
            }
            return i < 0 || i >= order.length ? NONE : order[i];
        }

        int round(int minutes, int day) {
            if (t.meters.isEmpty() || badDay(day) || minutes < 0 || minutes > 9999) {
                return -2;
            }
            int n = t.meters.size();
            int[] gains = new int[n];
            for (int m = 0; m < n; m++) {
                gains[m] = unlike(m, day);
            }
            int best = 0;
            int most = 0;
            int least = 0;
            for (int set = 1; set < 1 << n; set++) {
                int w = walk(set);
                int gain = 0;
                for (int m = 0; m < n; m++) {
                    gain += (set >> m & 1) * gains[m];
                }
                if (w <= minutes && (gain > most || gain == most && w < least)) {
                    best = set;
                    most = gain;
                    least = w;
                }
            }
            return best;
        }

        int bill(Tar t, long litres) {
            long cost = 0;
            long low = litres > t.upto ? t.upto : litres;
            cost += low * t.first;
            cost += (litres - low) * t.beyond;
            return (int) (t.standing + cost / 1000);
        }

        int bill(int litres, int year) {
            if (litres < 0 || litres > 1000000 || year < 0 || year > 1) {
                return -2;
            }
            return t.tariffs[year] == null ? -6 : bill(t.tariffs[year], litres);
        }

        Rd at(int meter, int day) {
            return rds.stream().filter(r -> r.meter == meter && r.day == day).findFirst().orElse(null);
        }

        int billed(int meter, int from, int to) {
            if (bad(meter) || badSpan(from, to)) {
                return -2;
            }
            Rd a = at(meter, from - 1);
            Rd b = at(meter, to - 1);
            Tar tar = t.tariffs[from / 365];
            return a == null || b == null || tar == null ? NONE : bill(tar, between(meter, a, b));
        }

        int owed(int meter, int from, int to, int what) {
            int b = billed(meter, from, to);
            if (b < 0 || what < 0 || what > 1) {
                return NOTHING;
            }
            int used = balance(meter, from, to, what == 0 ? 1 : 0);
            return used < 0 ? NOTHING : b - bill(t.tariffs[from / 365], used);
        }

        int appeal(int meter, int from, int to) {
            int b = billed(meter, from, to);
            if (b < 0) {
                return NOTHING;
            }
            long sum = 0;
            for (int d = from; d < to; d++) {
                sum += through(meter, d);
            }
            return b - bill(t.tariffs[from / 365], sum);
        }

        int share(int meter, int from, int to, int what) {
            int b = billed(meter, from, to);
            if (b == -2 || what < 0 || what > 2 || t.meters.get(meter).homes == 0) {
                return -2;
            }
            if (b < 0) {
                return NONE;
            }
            int landlord = b * t.meters.get(meter).landlord / 100;
            int each = (b - landlord) / t.meters.get(meter).homes;
            return what == 0 ? each : what == 1 ? landlord : b - landlord - each * t.meters.get(meter).homes;
        }

        int won(int meter, int day) {
            return bad(meter) || badDay(day) ? -2
                    : Math.max(0, 365 * (through(meter, day) - turned(meter, day)));
        }

        int change(int pence, int day) {
            if (badDay(day) || pence < 0 || pence > 99999) {
                return -2;
            }
            int best = 0;
            long most = 0;
            int least = 0;
            for (int set = 1; set < 1 << t.meters.size(); set++) {
                int cost = 0;
                long gain = 0;
                for (int m = 0; m < t.meters.size(); m++) {
                    if ((set >> m & 1) != 0) {
                        cost += 200 + 100 * t.meters.get(m).digits;
                        gain += won(m, day);
                    }
                }
                if (cost <= pence && (gain > most || gain == most && cost < least)) {
                    best = set;
                    most = gain;
                    least = cost;
                }
            }
            return best;
        }

        int nightly(int meter, int day) {
            int sum = 0;
            for (int c = 0; c < t.meters.size() && day >= 0; c++) {
                if (t.meters.get(c).parent == meter) {
                    sum += nightly(c, day) + leaksAhead(t.leaks, c, day);
                }
            }
            return sum;
        }

        int night(int meter, int day) {
            return bad(meter) || badDay(day) ? -2 : nightly(meter, day);
        }

        int rod(int meter, int day) {
            if (bad(meter) || badDay(day)) {
                return -2;
            }
            int sum = 0;
            for (Ev e : t.leaks) {
                sum += day < e.from ? 0 : e.amount / (1 + apart(e.meter, meter));
            }
            return sum;
        }

        int loudest(int day) {
            if (badDay(day)) {
                return -2;
            }
            int best = NONE;
            for (int m = 0; m < t.meters.size(); m++) {
                if (rod(m, day) > (best == NONE ? 0 : rod(best, day))) {
                    best = m;
                }
            }
            return best;
        }

        int drought(int litres, int day) {
            if (badDay(day) || litres < 0 || litres > 9999) {
                return -2;
            }
            int bits = 0;
            for (int m = 0; m < t.meters.size(); m++) {
                bits |= own(m, day) > litres ? 1 << m : 0;
            }
            return bits;
        }

        int limit(int sum, int day) {
            if (badDay(day) || sum < 0 || sum > 999999) {
                return -2;
            }
            for (int litres = 9999; litres > 0; litres--) {
                int used = 0;
                for (int m = 0; m < t.meters.size(); m++) {
                    used += Math.min(own(m, day), litres);
                }
                if (used <= sum) {
                    return litres;
                }
            }
            return 0;
        }

        int errors(int sort, int what) {
            if (sort < 0 || sort > 2 || what < 0 || what > 3) {
                return -2;
            }
            int[] by = new int[4];
            for (Rd r : rds) {
                if (r.sort == sort) {
                    int d = Math.abs(r.wheel - trueWheel(r.meter, r.day));
                    int far = Math.min(d, mod(r.meter) - d);
                    by[0]++;
                    by[1] += far != 0 ? 1 : 0;
                    by[2] += far;
                    by[3] = Math.max(by[3], far);
                }
            }
            return by[what];
        }

        int off(int meter, int day) {
            if (bad(meter) || badDay(day) || through(meter, day) == 0) {
                return NOTHING;
            }
            return 1000 * (turned(meter, day) - through(meter, day)) / through(meter, day);
        }

        int absOff(int meter, int day) {
            int off = off(meter, day);
            return off == NOTHING ? 0 : Math.abs(off);
        }

        int worst(int day) {
            if (badDay(day)) {
                return -2;
            }
            int best = NONE;
            for (int m = 0; m < t.meters.size(); m++) {
                if (absOff(m, day) > (best == NONE ? 0 : absOff(best, day))) {
                    best = m;
                }
            }
            return best;
        }

        int lot(int seed, int n, int day, int bound) {
            if (seed < 0 || seed > 2000000000 || n < 1 || n > t.meters.size() || badDay(day) || bound < 0
                    || bound > 9999) {
                return -2;
            }
            List<Integer> left = new ArrayList<>();
            for (int m = 0; m < t.meters.size(); m++) {
                left.add(m);
            }
            java.math.BigInteger x = java.math.BigInteger.valueOf(seed);
            int many = 0;
            for (int i = 0; i < n; i++) {
                x = x.multiply(java.math.BigInteger.valueOf(1103515245)).add(java.math.BigInteger.valueOf(12345))
                        .mod(java.math.BigInteger.valueOf(2147483648L));
                int drawn = left.remove((int) (x.longValue() / 65536 % left.size()));
                many += absOff(drawn, day) > bound ? 1 : 0;
            }
            return many;
        }

        int burst(int meter, int day) {
            return bad(meter) || badDay(day) ? NOTHING : nightly(meter, day) - nightly(meter, day - 1);
        }

        int bursts(int meter, int i) {
            if (bad(meter) || i < 0) {
                return -2;
            }
            int k = 0;
            for (int d = 0; d < 730; d++) {
                if (burst(meter, d) > 0 && k++ == i) {
                    return d;
                }
            }
            return NONE;
        }

        int garden(int meter, int year) {
            if (bad(meter) || year < 0 || year > 1) {
                return -2;
            }
            int sum = 0;
            for (int d = 150; d < 240; d++) {
                sum += empty(meter, d + 365 * year) ? 0 : t.meters.get(meter).summer;
            }
            return sum;
        }

        int vacant(int meter) {
            if (bad(meter)) {
                return -2;
            }
            int sum = 0;
            for (int d = 0; d < 730; d++) {
                sum += empty(meter, d) ? 1 : 0;
            }
            return sum;
        }

        int missed(int meter) {
            if (bad(meter)) {
                return -2;
            }
            List<Rd> f = firm(meter);
            int most = NONE;
            for (int i = 1; i < f.size(); i++) {
                most = Math.max(most, f.get(i).day - f.get(i - 1).day);
            }
            return most;
        }

        int guess(int meter, int day) {
            if (bad(meter) || badDay(day)) {
                return -2;
            }
            List<Rd> f = firm(meter).stream().filter(r -> r.day <= day).toList();
            if (f.size() < 2) {
                return NONE;
            }
            Rd a = f.get(f.size() - 2);
            Rd b = f.get(f.size() - 1);
            long more = (long) between(meter, a, b) * (day - b.day) / (b.day - a.day);
            return (int) ((b.wheel + more) % mod(meter));
        }

        int judge(int slot, int meter, int day) {
            if (slot < 0 || slot > 3 || bad(meter) || badDay(day)) {
                return -2;
            }
            if (rows[slot] == null) {
                return -6;
            }
            int n = java.lang.reflect.Array.getLength(rows[slot]);
            for (int i = 0; i < n; i++) {
                if (day + i > 729
                        || java.lang.reflect.Array.getLong(rows[slot], i) != trueWheel(meter, day + i)) {
                    return i;
                }
            }
            return n;
        }

        int count(int what) {
            int tariffs = (t.tariffs[0] == null ? 0 : 1) + (t.tariffs[1] == null ? 0 : 1);
            int slots = (int) Arrays.stream(rows).filter(r -> r != null).count();
            int[] by = {t.meters.size(), t.leaks.size(), rds.size(), tariffs, t.lines, length, slots};
            return what < 0 || what > 6 ? NONE : by[what];
        }

        int keep(int k) {
            if (k < 0 || k > 2) {
                return -2;
            }
            keptTowns[k] = t;
            keptRds.set(k, new ArrayList<>(rds));
            return 0;
        }

        int back(int k) {
            if (k < 0 || k > 2) {
                return -2;
            }
            if (keptTowns[k] == null) {
                return -6;
            }
            t = keptTowns[k];
            rds = new ArrayList<>(keptRds.get(k));
            return 0;
        }

        /** Java's own arrays, whose own checks are the promise's. */
        int row(int slot, int width, int n) {
            if (slot < 0 || slot > 3 || width < 0 || width > 3 || n > 60) {
                return -2;
            }
            try {
                rows[slot] = switch (width) {
                    case 0 -> new byte[n];
                    case 1 -> new short[n];
                    case 2 -> new int[n];
                    default -> new long[n];
                };
                return 0;
            } catch (NegativeArraySizeException e) {
                return -3;
            }
        }

        int write(int slot, int i, long v) {
            if (slot < 0 || slot > 3) {
                return -2;
            }
            if (rows[slot] == null) {
                return -6;
            }
            try {
                if (rows[slot] instanceof byte[] b) {
                    b[i] = (byte) v;
                } else if (rows[slot] instanceof short[] s) {
                    s[i] = (short) v;
                } else if (rows[slot] instanceof int[] n) {
                    n[i] = (int) v;
                } else {
                    ((long[]) rows[slot])[i] = v;
                }
                return 0;
            } catch (ArrayIndexOutOfBoundsException e) {
                return -7;
            }
        }

        int paste(int slot, int i, int to, int k, int n) {
            if (slot < 0 || slot > 3 || to < 0 || to > 3) {
                return -2;
            }
            try {
                System.arraycopy(rows[slot], i, rows[to], k, n);
                return 0;
            } catch (NullPointerException e) {
                return -6;
            } catch (ArrayStoreException e) {
                return -8;
            } catch (IndexOutOfBoundsException e) {
                return -7;
            }
        }
    }

    // ---------------------------------------------------------------- random calls

    private static final class Caller {
        static final String[] NAMES = {"feed", "end", "town", "fault", "flow", "turned", "wheel", "reading",
            "read", "undo", "told", "readings", "counted", "balance", "lost", "fits", "fewest", "sets", "alone",
            "ways", "leak", "span", "next", "unlike", "walk", "step", "round", "bill", "billed", "owed", "change",
            "won", "night", "rod", "loudest", "drought", "limit", "errors", "off", "worst", "lot", "burst",
            "bursts", "appeal", "share", "garden", "vacant", "missed", "guess", "judge", "count", "keep", "back",
            "row", "write", "paste"};

        final Random random;
        final int run;
        final int[] answered;
        final WheelTown x = new WheelTown();
        final Model y = new Model();
        final StringBuilder log = new StringBuilder();

        Caller(Random random, int run, int[] answered) {
            this.random = random;
            this.run = run;
            this.answered = answered;
        }

        void run() {
            newTown();
            int calls = 5;
            while (calls < CALLS && wrong < 20) {
                if (random.nextInt(60) == 0) {
                    newTown();
                } else if (random.nextInt(3) == 0) {
                    some(random.nextBoolean() ? 7 : 8);
                } else {
                    some(2 + random.nextInt(NAMES.length - 2));
                }
                calls++;
            }
        }

        void check(int which, int got, int want, Object... args) {
            log.append(NAMES[which]).append(Arrays.toString(args)).append(" -> ").append(want).append('\n');
            if (got >= 0) {
                answered[which]++;
            }
            if (got != want) {
                wrong++;
                System.out.println("run " + run + ": " + NAMES[which] + Arrays.toString(args) + " answered " + got
                        + ", due is " + want);
                if (wrong == 1) {
                    System.out.println(log);
                }
            }
        }

        int upTo(int n) {
            return random.nextInt(n + 1);
        }

        int meter() {
            int n = y.t.meters.size();
            return random.nextInt(25) == 0 ? random.nextInt(16) - 2 : n == 0 ? 0 : random.nextInt(n);
        }

        int day() {
            int[] edges = {0, 1, 59, 60, 149, 150, 239, 240, 364, 365, 514, 515, 604, 605, 719, 720, 728, 729, -1, 730};
            if (random.nextInt(3) == 0) {
                return edges[random.nextInt(edges.length)];
            }
            if (random.nextInt(3) == 0 && !y.rds.isEmpty()) {
                return y.rds.get(random.nextInt(y.rds.size())).day + random.nextInt(3) - 1;
            }
            return random.nextInt(730);
        }

        int wild(int usual) {
            int[] far = {-1, Integer.MAX_VALUE, Integer.MIN_VALUE, 60, 120, 9999, 10000};
            return random.nextInt(30) == 0 ? far[random.nextInt(far.length)] : usual;
        }

        void newTown() {
            y.end(0);
            x.end(0);
            String text = text();
            if (random.nextInt(4) == 0) {
                text = spoilt(text);
            }
            if (text.length() > 1200) {
                text = text.substring(0, 1200);
            }
            log.append(text).append('\n');
            feedBoth(text);
            check(1, x.end(text.length()), y.end(text.length()), text.length());
            some(2);
            some(3);
        }

        void feedBoth(String text) {
            byte[] b = new byte[(text.length() + 19) / 20 * 20];
            for (int i = 0; i < text.length(); i++) {
                b[i] = (byte) text.charAt(i);
            }
            java.nio.ByteBuffer buffer = java.nio.ByteBuffer.wrap(b);
            for (int i = 0; i < b.length; i += 20) {
                int p = buffer.getInt();
                int q = buffer.getInt();
                int r = buffer.getInt();
                int s = buffer.getInt();
                int t = buffer.getInt();
                check(0, x.feed(p, q, r, s, t), y.feed(p, q, r, s, t));
            }
        }

        String text() {
            StringBuilder s = new StringBuilder();
            int n = random.nextInt(8) == 0 ? 12 : random.nextInt(6);
            boolean deep = random.nextBoolean();
            int[] parent = new int[12];
            for (int m = 0; m < n; m++) {
                parent[m] = m > 0 && random.nextInt(5) > 0 ? deep ? m - 1 : random.nextInt(m) : NONE;
                s.append(meterLine(parent[m]));
            }
            int events = s.length() > 800 ? 3 : n < 4 && random.nextInt(4) == 0 ? 40 : 8;
            int[] told = new int[3];
            boolean[] courts = new boolean[12];
            for (int i = 0; i < events && n > 0; i++) {
                int m = random.nextInt(n);
                int kind = random.nextInt(4);
                if (kind < 2 && parent[m] != NONE && told[kind] < (kind == 0 ? 1 + upTo(5) : 6)) {
                    told[kind]++;
                    s.append(kind == 0 ? leakLine(m)
                            : "flush " + m + " litres " + (1 + upTo(9998)) + " on " + Math.min(729, Math.max(0, day())) + ";");
                } else if (kind == 2 && told[2] < 6) {
                    told[2]++;
                    int from = Math.min(729, Math.max(0, day()));
                    s.append("empty " + m + " from " + from + " to " + (from + upTo(Math.min(729 - from, 200))) + ";\n");
                } else if (kind == 3 && !courts[m]) {
                    courts[m] = true;
                    s.append("court " + m + " homes " + (1 + upTo(98)) + " landlord " + upTo(100) + "; ");
                }
            }
            for (int year = 0; year < 2; year++) {
                if (random.nextInt(5) > 0) {
                    s.append("tariff " + year + " standing " + upTo(9999) + " first " + upTo(999) + " upto "
                            + upTo(random.nextBoolean() ? 500 : 999999) + " beyond " + upTo(999) + ";");
                }
            }
            return s.toString();
        }

        String meterLine(int parent) {
            String[] faults = {"", "", "", " crawl", " stuck", " backward", " half", " double", " old"};
            int most = random.nextInt(4) == 0 ? 3 : random.nextInt(3) == 0 ? 999 : 60;
            int side = random.nextInt(3) == 0 ? 2 : 99;
            return "meter " + (parent == NONE ? "" : "below " + parent + " ") + "use " + upTo(most)
                    + (random.nextInt(3) == 0 ? " summer " + upTo(most) : "") + " digits " + (3 + upTo(3))
                    + (random.nextInt(3) == 0 ? " start " + upTo(999999) : "") + " age " + upTo(40) + " at "
                    + upTo(side) + " " + upTo(side) + faults[random.nextInt(faults.length)] + ";";
        }

        String leakLine(int m) {
            boolean usual = random.nextInt(3) > 0;
            return "leak " + m + " rate " + (usual ? 1 + upTo(39) : 1 + upTo(998)) + " since "
                    + (usual ? 60 * upTo(12) : upTo(729)) + ";";
        }

        String spoilt(String text) {
            StringBuilder s = new StringBuilder(text);
            int times = 1 + random.nextInt(2);
            for (int i = 0; i < times && s.length() > 0; i++) {
                int at = random.nextInt(s.length());
                String signs = "0129;a z\n\tA" + (char) 0 + (char) 200;
                switch (random.nextInt(5)) {
                    case 0 -> s.deleteCharAt(at);
                    case 1 -> s.insert(at, signs.charAt(random.nextInt(signs.length())));
                    case 2 -> s.setCharAt(at, signs.charAt(random.nextInt(signs.length())));
                    case 3 -> s.setLength(at);
                    default -> {
                        int semicolon = s.indexOf(";", at) + 1;
                        s.insert(semicolon, s.substring(at, Math.max(at, semicolon)));
                    }
                }
            }
            return s.toString();
        }

        int someWheel(int meter, int day) {
            if (y.bad(meter) || y.badDay(day) || random.nextInt(12) == 0) {
                return wild(upTo(9999));
            }
            int fault = random.nextInt(3) == 0 ? random.nextInt(7) : y.t.meters.get(meter).fault;
            return y.wheelBy(meter, day, fault);
        }

        void some(int which) {
            if (which <= 15) {
                first(which);
            } else if (which <= 30) {
                second(which);
            } else if (which <= 45) {
                third(which);
            } else {
                fourth(which);
            }
        }

        void first(int which) {
            int m = meter();
            int d = day();
            int what = wild(random.nextInt(4));
            int half = wild(random.nextInt(2));
            int i = wild(random.nextInt(3));
            int to = wild(Math.min(730, d + upTo(80)));
            if (random.nextInt(2) == 0 && !y.bad(m) && y.firm(m).size() > 1) {
                List<Rd> f = y.firm(m);
                int a = random.nextInt(f.size() - 1);
                d = f.get(a).day + 1;
                to = f.get(a + 1 + random.nextInt(f.size() - a - 1)).day + 1;
                d += random.nextInt(4) == 0 ? random.nextInt(3) - 1 : 0;
                to += random.nextInt(4) == 0 ? random.nextInt(3) - 1 : 0;
            }
            switch (which) {
                case 2 -> check(2, x.town(), y.town());
                case 3 -> {
                    check(3, x.fault(0), y.fault, 0);
                    check(3, x.fault(1), y.place, 1);
                }
                case 4 -> check(4, x.flow(m, d, what), y.flow(m, d, what), m, d, what);
                case 5 -> check(5, x.turned(m, d), y.turned(m, d), m, d);
                case 6 -> check(6, x.wheel(m, d), y.wheel(m, d), m, d);
                case 7 -> {
                    int sort = wild(random.nextInt(3));
                    int w = someWheel(m, d);
                    check(7, x.reading(m, d, w, sort), y.reading(m, d, w, sort), m, d, w, sort);
                }
                case 8 -> {
                    int swapped = random.nextInt(3) > 0 ? NONE : random.nextInt(6);
                    check(8, x.read(m, d, swapped), y.read(m, d, swapped), m, d, swapped);
                }
                case 9 -> check(9, x.undo(i), y.undo(i), i);
                case 10 -> {
                    int r = wild(random.nextInt(y.rds.size() + 1));
                    check(10, x.told(r, what), y.told(r, what), r, what);
                }
                case 11 -> check(11, x.readings(m, half), y.readings(m, half), m, half);
                case 12 -> check(12, x.counted(m, i), y.counted(m, i), m, i);
                case 13 -> check(13, x.balance(m, d, to, half), y.balance(m, d, to, half), m, d, to, half);
                case 14 -> check(14, x.lost(m, d, to, half), y.lost(m, d, to, half), m, d, to, half);
                default -> check(15, x.fits(m), y.fits(m), m);
            }
        }

        void second(int which) {
            int m = meter();
            int d = day();
            int set = wild(y.t.meters.isEmpty() ? 0 : random.nextInt(1 << y.t.meters.size()));
            int i = wild(random.nextInt(6));
            boolean small = y.t.meters.size() <= 7;
            int[] span = someSpan(m);
            int half = wild(random.nextInt(2));
            switch (which) {
                case 16 -> check(16, x.fewest(), y.fewest());
                case 17 -> check(17, x.sets(), y.sets());
                case 18 -> check(18, x.alone(m), y.alone(m), m);
                case 19 -> check(19, x.ways(m), y.ways(m), m);
                case 20 -> {
                    if (y.t.meters.size() <= 4 && random.nextInt(3) == 0) {
                        int what = wild(random.nextInt(4));
                        check(20, x.leak(what), y.leak(what), what);
                    }
                }
                case 21 -> {
                    if (y.t.meters.size() <= 4 && random.nextInt(3) == 0) {
                        check(21, x.span(m), y.span(m), m);
                    }
                }
                case 22 -> check(22, x.next(d), y.next(d), d);
                case 23 -> check(23, x.unlike(m, d), y.unlike(m, d), m, d);
                case 24 -> {
                    if (small || Integer.bitCount(set) <= 7) {
                        check(24, x.walk(set), y.walk(set), set);
                    }
                }
                case 25 -> {
                    if (small || Integer.bitCount(set) <= 7) {
                        check(25, x.step(set, i), y.step(set, i), set, i);
                    }
                }
                case 26 -> {
                    if (y.t.meters.size() <= 6) {
                        int minutes = wild(random.nextInt(300));
                        check(26, x.round(minutes, d), y.round(minutes, d), minutes, d);
                    }
                }
                case 27 -> {
                    int litres = random.nextInt(3) == 0 ? 999999 + random.nextInt(3) : upTo(2000) - 1;
                    int year = wild(random.nextInt(2));
                    check(27, x.bill(litres, year), y.bill(litres, year), litres, year);
                }
                case 28 -> check(28, x.billed(m, span[0], span[1]), y.billed(m, span[0], span[1]), m, span[0], span[1]);
                case 29 -> check(29, x.owed(m, span[0], span[1], half), y.owed(m, span[0], span[1], half), m, span[0],
                        span[1], half);
                default -> {
                    int pence = wild(random.nextInt(6000));
                    check(30, x.change(pence, d), y.change(pence, d), pence, d);
                }
            }
        }

        /** From one READING of a METER to another, guesses too; at times anything. */
        int[] someSpan(int m) {
            int n = y.rds.size();
            List<Integer> days = new ArrayList<>();
            for (Rd r : y.rds) {
                if (r.meter == m) {
                    days.add(r.day + 1);
                }
            }
            if (n > 0 && days.size() > 1 && random.nextInt(6) > 0) {
                int a = random.nextInt(days.size() - 1);
                return new int[] {days.get(a), days.get(a + 1 + random.nextInt(days.size() - a - 1))};
            }
            int d = day();
            return new int[] {d, wild(d + random.nextInt(50))};
        }

        void third(int which) {
            int m = meter();
            int d = day();
            int[] span = someSpan(m);
            int what = wild(random.nextInt(4));
            int litres = wild(random.nextInt(random.nextBoolean() ? 100 : 2000));
            switch (which) {
                case 31 -> check(31, x.won(m, d), y.won(m, d), m, d);
                case 32 -> check(32, x.night(m, d), y.night(m, d), m, d);
                case 33 -> check(33, x.rod(m, d), y.rod(m, d), m, d);
                case 34 -> check(34, x.loudest(d), y.loudest(d), d);
                case 35 -> check(35, x.drought(litres, d), y.drought(litres, d), litres, d);
                case 36 -> check(36, x.limit(litres, d), y.limit(litres, d), litres, d);
                case 37 -> {
                    int sort = wild(random.nextInt(3));
                    check(37, x.errors(sort, what), y.errors(sort, what), sort, what);
                }
                case 38 -> check(38, x.off(m, d), y.off(m, d), m, d);
                case 39 -> check(39, x.worst(d), y.worst(d), d);
                case 40 -> {
                    int seed = wild(random.nextInt(2000000001));
                    int n = wild(1 + random.nextInt(Math.max(1, y.t.meters.size())));
                    int bound = wild(random.nextInt(1001));
                    check(40, x.lot(seed, n, d, bound), y.lot(seed, n, d, bound), seed, n, d, bound);
                }
                case 41 -> {
                    int day = y.t.leaks.isEmpty() || random.nextInt(3) == 0 ? d
                            : y.t.leaks.get(random.nextInt(y.t.leaks.size())).from;
                    check(41, x.burst(m, day), y.burst(m, day), m, day);
                }
                case 42 -> {
                    int i = wild(random.nextInt(3));
                    check(42, x.bursts(m, i), y.bursts(m, i), m, i);
                }
                case 43 -> check(43, x.appeal(m, span[0], span[1]), y.appeal(m, span[0], span[1]), m, span[0], span[1]);
                case 44 -> {
                    int third = wild(random.nextInt(3));
                    check(44, x.share(m, span[0], span[1], third), y.share(m, span[0], span[1], third), m, span[0],
                            span[1], third);
                }
                default -> {
                    int year = wild(random.nextInt(2));
                    check(45, x.garden(m, year), y.garden(m, year), m, year);
                }
            }
        }

        void fourth(int which) {
            int m = meter();
            int d = day();
            int slot = wild(random.nextInt(4));
            int k = wild(random.nextInt(3));
            switch (which) {
                case 46 -> check(46, x.vacant(m), y.vacant(m), m);
                case 47 -> check(47, x.missed(m), y.missed(m), m);
                case 48 -> check(48, x.guess(m, d), y.guess(m, d), m, d);
                case 49 -> {
                    writeWheels(slot, m, d);
                    check(49, x.judge(slot, m, d), y.judge(slot, m, d), slot, m, d);
                }
                case 50 -> {
                    int what = wild(random.nextInt(7));
                    check(50, x.count(what), y.count(what), what);
                }
                case 51 -> check(51, x.keep(k), y.keep(k), k);
                case 52 -> check(52, x.back(k), y.back(k), k);
                case 53 -> {
                    int width = wild(random.nextInt(4));
                    int n = wild(random.nextInt(8));
                    check(53, x.row(slot, width, n), y.row(slot, width, n), slot, width, n);
                }
                case 54 -> {
                    int i = wild(random.nextInt(6));
                    long v = random.nextLong() >> random.nextInt(64);
                    check(54, x.write(slot, i, v), y.write(slot, i, v), slot, i, v);
                }
                default -> {
                    int i = wild(random.nextInt(3));
                    int to = wild(random.nextInt(4));
                    int j = wild(random.nextInt(3));
                    int n = wild(random.nextInt(4));
                    check(55, x.paste(slot, i, to, j, n), y.paste(slot, i, to, j, n), slot, i, to, j, n);
                }
            }
        }

        void writeWheels(int slot, int m, int d) {
            if (y.bad(m) || y.badDay(d) || random.nextInt(4) == 0) {
                return;
            }
            int right = random.nextInt(8);
            for (int i = 0; i < right && d + i < 730; i++) {
                int w = y.trueWheel(m, d + i);
                check(54, x.write(slot, i, w), y.write(slot, i, w), slot, i, w);
            }
        }
    }
}
