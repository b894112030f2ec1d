/** For each promise of the document answers that were worked out by hand: plain, edge and wrong inputs. */
public final class PromiseTest {
    private static final int NONE = -1;
    private static final int NOTHING = -2000000000;
    private static final int FAR = Integer.MAX_VALUE;
    private static final int LOW = Integer.MIN_VALUE;

    /*
     * Through METER 0: 80, 180, 87, 87, 87, then 37 on DAYS 5 .. 9, then 87; in summer 107.
     * TURNS of METER 1: 41, none on DAYS 5 .. 9, 57 in summer; in YEAR 1: 40, in summer 56.
     */
    private static final String BASE =
            "meter use 10 digits 4 age 0 at 0 0;\n"
            + "meter below 0 use 50 summer 20 digits 3 start 990 age 19 at 3 4 crawl;\n"
            + "meter below 0 use 20 digits 4 age 5 at 3 0 half;\n"
            + "leak 1 rate 7 since 2; flush 2 litres 100 on 1; empty 1 from 5 to 9;\n"
            + "court 0 homes 3 landlord 10;\n"
            + "tariff 0 standing 100 first 500 upto 100 beyond 900;";

    private static int wrong = 0;
    private static int promise = 0;

    private static void due(String call, long got, long want) {
        if (got != want) {
            wrong++;
            System.out.println("promise " + promise + ": " + call + " answered " + got
                    + ", due is " + want);
        }
    }

    private static void feedText(WheelTown x, String text) {
        byte[] bytes = new byte[(text.length() + 19) / 20 * 20];
        for (int i = 0; i < text.length(); i++) {
            bytes[i] = (byte) text.charAt(i);
        }
        int before = x.count(5);
        for (int i = 0; i < bytes.length; i += 20) {
            x.feed(four(bytes, i), four(bytes, i + 4), four(bytes, i + 8), four(bytes, i + 12),
                    four(bytes, i + 16));
        }
        x.end(before + text.length());
    }

    private static int four(byte[] b, int i) {
        return (b[i] & 255) << 24 | (b[i + 1] & 255) << 16 | (b[i + 2] & 255) << 8 | b[i + 3] & 255;
    }

    private static WheelTown of(String text) {
        WheelTown x = new WheelTown();
        feedText(x, text);
        int lines = x.town();
        if (lines < 0) {
            wrong++;
            System.out.println("promise " + promise + ": the text of the test has fault " + x.fault(0)
                    + " at " + x.fault(1) + ": " + text);
        }
        return x;
    }

    private static WheelTown base() {
        return of(BASE);
    }

    public static void main(String[] args) {
        texts();
        flows();
        readingsTold();
        balances();
        faultsThatFit();
        leaksAndWalks();
        bills();
        nights();
        offs();
        imagesAndSlots();
        System.out.println(wrong == 0 ? "all promises hold" : wrong + " answers are not as due");
        if (wrong != 0) {
            System.exit(1);
        }
    }

    private static void texts() {
        promise1();
        promise2();
        promise3();
        promise4();
        promise5();
        faultsOfLines();
        faultsOfNumbers();
        faultsOfTooMany();
        faultsBehindOthers();
    }

    private static void promise1() {
        promise = 1;
        WheelTown x = new WheelTown();
        due("count(0)", x.count(0), 0);
        due("count(2)", x.count(2), 0);
        due("count(3)", x.count(3), 0);
        due("count(4)", x.count(4), 0);
        due("count(5)", x.count(5), 0);
        due("count(6)", x.count(6), 0);
        due("bill(0, 0)", x.bill(0, 0), -6);
        due("told(0, 0)", x.told(0, 0), NONE);
        due("NONE", WheelTown.NONE, -1);
    }

    private static void promise2() {
        promise = 2;
        WheelTown x = new WheelTown();
        for (int i = 1; i <= 60; i++) {
            due("feed " + i, x.feed(0x20202020, 0x20202020, 0x20202020, 0x20202020, 0x20202020), 20 * i);
        }
        due("feed 61", x.feed(0, 0, 0, 0, 0), NONE);
        due("count(5)", x.count(5), 1200);
        due("blanks alone", x.town(), 0);
        x = new WheelTown();
        x.feed(0x6d657465, 0x72207573, 0x65203120, 0x64696769, 0x74732033);
        x.feed(0x20616765, 0x20302061, 0x74203020, 0x303b0000, 0);
        x.end(34);
        due("the highest byte first", x.town(), 1);
        due("count(0)", x.count(0), 1);
        x = new WheelTown();
        for (int i = 0; i < 60; i++) {
            x.feed(0, 0, 0, 0, 0);
        }
        x.end(1181);
        due("one byte too many", x.feed(0, 0, 0, 0, 0), NONE);
        due("count(5)", x.count(5), 1181);
        x.end(1180);
        due("just enough", x.feed(0, 0, 0, 0, 0), 1200);
    }

    private static void promise3() {
        promise = 3;
        WheelTown x = new WheelTown();
        due("end(0)", x.end(0), 0);
        due("end(1)", x.end(1), NONE);
        due("end(-1)", x.end(-1), NONE);
        x.feed(0x3b3b3b3b, 0, 0, 0, 0);
        due("end(21)", x.end(21), NONE);
        due("end(LOW)", x.end(LOW), NONE);
        due("count(5)", x.count(5), 20);
        due("end(20)", x.end(20), 20);
        due("end(7)", x.end(7), 7);
        due("count(5)", x.count(5), 7);
        due("end(8)", x.end(8), NONE);
    }

    private static void promise4() {
        promise = 4;
        WheelTown x = new WheelTown();
        feedText(x, BASE);
        due("town()", x.town(), 8);
        due("the TAPE is empty then", x.count(5), 0);
        due("count(0)", x.count(0), 3);
        due("count(4)", x.count(4), 8);
        due("a READING", x.reading(0, 0, 5, 0), 0);
        feedText(x, "meter use 1 digits 9 age 0 at 0 0;");
        due("a FAULT", x.town(), -4);
        due("METERS stay", x.count(0), 3);
        due("READINGS stay", x.count(2), 1);
        due("LINES stay", x.count(4), 8);
        due("tariffs stay", x.count(3), 1);
        due("flow stays", x.flow(0, 0, 1), 80);
        due("the TAPE stays", x.count(5), 34);
        x.end(0);
        feedText(x, " \n ");
        due("an empty TOWN in place of it", x.town(), 0);
        due("no METERS", x.count(0), 0);
        due("no READINGS", x.count(2), 0);
        due("no tariffs", x.count(3), 0);
        due("no LEAKS", x.count(1), 0);
        x = base();
        x.read(0, 0, NONE);
        feedText(x, BASE);
        due("town() again", x.town(), 8);
        due("no READINGS then", x.count(2), 0);
    }

    private static void promise5() {
        promise = 5;
        WheelTown x = new WheelTown();
        due("fault(0) ahead of any", x.fault(0), 0);
        due("fault(1) ahead of any", x.fault(1), NONE);
        due("fault(2)", x.fault(2), NONE);
        due("fault(-1)", x.fault(-1), NONE);
        feedText(x, "meter ;");
        due("town()", x.town(), -4);
        due("fault(0)", x.fault(0), 1);
        due("fault(1)", x.fault(1), 6);
        due("fault(2)", x.fault(2), NONE);
        x.end(0);
        due("town()", x.town(), 0);
        due("fault(0) without", x.fault(0), 0);
        due("fault(1) without", x.fault(1), NONE);
        feedText(x, "meter ;");
        x.town();
        due("end stays out of it", x.end(0), 0);
        due("of the latest town()", x.fault(1), 6);
    }

    private static void faulty(String text, int fault, int place) {
        WheelTown x = new WheelTown();
        feedText(x, text);
        due("town of " + text, x.town(), -4);
        due("fault(0) of " + text, x.fault(0), fault);
        due("fault(1) of " + text, x.fault(1), place);
    }

    private static void right(String text, int lines) {
        WheelTown x = new WheelTown();
        feedText(x, text);
        due("town of " + text, x.town(), lines);
        due("fault(0) of " + text, x.fault(0), 0);
        due("fault(1) of " + text, x.fault(1), NONE);
    }

    private static void faultsOfLines() {
        faulty(";", 1, 0);
        faulty("7", 1, 0);
        faulty("mete", 1, 0);
        faulty("meters", 1, 0);
        faulty("  Meter", 1, 2);
        faulty("meter", 1, 5);
        faulty("meter  ", 1, 7);
        faulty("meter use", 1, 9);
        faulty("meter use x", 1, 10);
        faulty("meter use 1 digits 3 age 0 at 0 0", 1, 33);
        faulty("meter use 1 digits 3 age 0 at 0 0 meter", 1, 34);
        faulty("meter use 1 digits 3 age 0 at 0;", 1, 31);
        faulty("meter use 1 digits 3 age 0 at 0 0 slow;", 1, 34);
        faulty("meter use 1 digits 3 age 0 at 0 0 old old;", 1, 38);
        faulty("meter use 1 start 5 digits 3 age 0 at 0 0;", 1, 12);
        faulty("meter use 1 digits 3 summer 5 age 0 at 0 0;", 1, 21);
        faulty("meter\tuse", 1, 5);
        faulty("meter use -1", 1, 10);
        faulty("meter use 1,", 1, 11);
        faulty("meter use 1 digits 3 age 0 at 0 0;;", 1, 34);
        faulty("meter use 1 digits 3 age 0 at 0 0; " + (char) 233, 1, 35);
        faulty("meteruse 1", 1, 0);
        right("meter use 1digits 3age 0at 0 0old;", 1);
        right("meter\nuse\n1 digits 3 age 0 at 0 0\n;\n", 1);
        right("meter use 001 digits 0000000000000003 age 0 at 0 0;", 1);
        faulty("meter use 1 digits 3 age 0 at 00;", 1, 32);
        faulty("zebra", 1, 0);
        faulty("meter uze", 1, 6);
        faulty("leter", 1, 0);
        faulty("meter use 1 digits 3 age 0 at 0 0; {", 1, 35);
        faulty("meter use 1 digits 3 age 0 at 0 0; `", 1, 35);
        faulty("meter use /", 1, 10);
        faulty("meter use :", 1, 10);
        right("meter use 0 summer 0 digits 3 start 0 age 0 at 0 0 crawl;", 1);
        right("meter use 999 summer 999 digits 6 start 999999 age 40 at 99 99 backward;", 1);
        right("tariff 1 standing 0 first 0 upto 0 beyond 0;", 1);
        right("tariff 1 standing 9999 first 999 upto 999999 beyond 999;"
                + "tariff 0 standing 9999 first 999 upto 999999 beyond 999;", 2);
    }

    private static void faultsOfNumbers() {
        String two = "meter use 1 digits 3 age 0 at 0 0;meter below 0 use 1 digits 3 age 0 at 0 0;";
        int n = two.length();
        faulty("meter below 0 use", 2, 12);
        faulty("meter use 1000", 2, 10);
        faulty("meter use 99999999999999999999 x", 2, 10);
        faulty("meter use 4294967297 x", 2, 10);
        faulty("meter use 1 summer 1000", 2, 19);
        faulty("meter use 1 digits 2", 2, 19);
        faulty("meter use 1 digits 7", 2, 19);
        faulty("meter use 1 digits 3 start 1000000", 2, 27);
        faulty("meter use 1 digits 3 age 41", 2, 25);
        faulty("meter use 1 digits 3 age 0 at 100", 2, 30);
        faulty("meter use 1 digits 3 age 0 at 0 100", 2, 32);
        faulty(two + "meter below 2 use 1", 2, n + 12);
        faulty(two + "leak 0 rate 1 since 0;", 2, n + 5);
        faulty(two + "leak 2 rate 1 since 0;", 2, n + 5);
        faulty(two + "leak 1 rate 0 since 0;", 2, n + 12);
        faulty(two + "leak 1 rate 1000 since 0;", 2, n + 12);
        faulty(two + "leak 1 rate 1 since 730;", 2, n + 20);
        faulty(two + "flush 0 litres 1 on 0;", 2, n + 6);
        faulty(two + "flush 1 litres 0 on 0;", 2, n + 15);
        faulty(two + "flush 1 litres 10000 on 0;", 2, n + 15);
        faulty(two + "flush 1 litres 1 on 730;", 2, n + 20);
        faulty(two + "empty 2 from 0 to 0;", 2, n + 6);
        faulty(two + "empty 0 from 730 to 730;", 2, n + 13);
        faulty(two + "empty 0 from 5 to 4;", 2, n + 18);
        faulty(two + "empty 0 from 5 to 730;", 2, n + 18);
        right(two + "empty 0 from 5 to 5;empty 0 from 0 to 729;empty 1 from 729 to 729;", 5);
        right(two + "flush 1 litres 9999 on 729;flush 1 litres 1 on 0;", 4);
        right(two + "leak 1 rate 999 since 729;leak 1 rate 1 since 0;", 4);
        faulty(two + "court 2 homes 1 landlord 0;", 2, n + 6);
        faulty(two + "court 0 homes 0 landlord 0;", 2, n + 14);
        faulty(two + "court 0 homes 100 landlord 0;", 2, n + 14);
        faulty(two + "court 0 homes 1 landlord 101;", 2, n + 25);
        right(two + "court 0 homes 1 landlord 100;court 1 homes 99 landlord 0;", 4);
        faulty(two + "court 0 homes 1 landlord 0;court 0 x", 2, n + 33);
        faulty("tariff 2 standing 0", 2, 7);
        faulty("tariff 0 standing 10000", 2, 18);
        faulty("tariff 0 standing 0 first 1000", 2, 26);
        faulty("tariff 0 standing 0 first 0 upto 1000000", 2, 33);
        faulty("tariff 0 standing 0 first 0 upto 0 beyond 1000", 2, 42);
        faulty("tariff 0 standing 0 first 0 upto 0 beyond 0; tariff 0", 2, 52);
        faulty("leak 0", 2, 5);
        faulty("leak x", 1, 5);
        faulty("leak", 1, 4);
    }

    /** What other texts left behind is not told ahead. */
    private static void faultsBehindOthers() {
        String two = "meter use 1 digits 3 age 0 at 0 0;meter below 0 use 1 digits 3 age 0 at 0 0;";
        WheelTown x = base();
        feedText(x, BASE);
        x.town();
        for (String line : new String[] {"leak 2 rate 1 since 0;", "flush 2 litres 1 on 0;"}) {
            x.end(0);
            feedText(x, two + line);
            due("town()", x.town(), -4);
            due("fault(0)", x.fault(0), 2);
            due("fault(1)", x.fault(1), two.length() + line.indexOf('2'));
        }
        x.end(0);
        feedText(x, two + "court 0 homes 5 landlord 50;tariff 0 standing 7 first 0 upto 0 beyond 0;");
        due("a court and a tariff, told anew", x.town(), 4);
        due("bill(0, 0)", x.bill(0, 0), 7);
        due("no LEAKS", x.count(1), 0);
        due("no summer", x.flow(0, 150, 1), 2);
        due("no start", x.wheel(1, 0), 1);
        due("not empty", x.flow(1, 5, 0), 1);
    }

    private static void faultsOfTooMany() {
        StringBuilder text = new StringBuilder();
        for (int i = 0; i < 12; i++) {
            text.append("meter use 1 digits 3 age 0 at 0 0;");
        }
        right(text.toString(), 12);
        faulty(text + "meter", 3, 408);
        faulty(text + " meter use x", 3, 409);
        String two = "meter use 1 digits 3 age 0 at 0 0;meter below 0 use 1 digits 3 age 0 at 0 0;";
        String[] lines = {"leak 1 rate 1 since 0;", "flush 1 litres 1 on 0;", "empty 1 from 0 to 0;"};
        for (String line : lines) {
            String six = two + line + line + line + line + line + line;
            right(six, 8);
            faulty(six + line, 3, six.length());
            faulty(six + line.substring(0, 5), 3, six.length());
        }
        String all = two + lines[0].repeat(6) + lines[1].repeat(6) + lines[2].repeat(6);
        right(all, 20);
    }

    private static void flows() {
        promise6();
        promise7();
        promise8();
    }

    private static void promise6() {
        promise = 6;
        WheelTown x = base();
        due("flow(0, 0, 0)", x.flow(0, 0, 0), 10);
        due("flow(0, 0, 1)", x.flow(0, 0, 1), 80);
        due("flow(0, 1, 1)", x.flow(0, 1, 1), 180);
        due("flow(0, 2, 1)", x.flow(0, 2, 1), 87);
        due("flow(0, 4, 1)", x.flow(0, 4, 1), 87);
        due("flow(0, 5, 1)", x.flow(0, 5, 1), 37);
        due("flow(0, 9, 1)", x.flow(0, 9, 1), 37);
        due("flow(0, 10, 1)", x.flow(0, 10, 1), 87);
        due("flow(0, 149, 1)", x.flow(0, 149, 1), 87);
        due("flow(0, 150, 1)", x.flow(0, 150, 1), 107);
        due("flow(0, 239, 1)", x.flow(0, 239, 1), 107);
        due("flow(0, 240, 1)", x.flow(0, 240, 1), 87);
        due("flow(0, 514, 1)", x.flow(0, 514, 1), 87);
        due("flow(0, 515, 1)", x.flow(0, 515, 1), 107);
        due("flow(0, 604, 1)", x.flow(0, 604, 1), 107);
        due("flow(0, 605, 1)", x.flow(0, 605, 1), 87);
        due("flow(0, 729, 1)", x.flow(0, 729, 1), 87);
        due("flow(1, 150, 0)", x.flow(1, 150, 0), 70);
        due("flow(1, 5, 0)", x.flow(1, 5, 0), 0);
        due("flow(2, 0, 2)", x.flow(2, 0, 2), 0);
        due("flow(2, 1, 2)", x.flow(2, 1, 2), 100);
        due("flow(2, 2, 2)", x.flow(2, 2, 2), 0);
        due("flow(2, 1, 3)", x.flow(2, 1, 3), 120);
        due("flow(1, 1, 2)", x.flow(1, 1, 2), 0);
        due("flow(1, 2, 2)", x.flow(1, 2, 2), 7);
        due("flow(1, 2, 1)", x.flow(1, 2, 1), 50);
        due("flow(1, 2, 3)", x.flow(1, 2, 3), 57);
        due("flow(0, 2, 2)", x.flow(0, 2, 2), 0);
        due("flow(3, 0, 0)", x.flow(3, 0, 0), -2);
        due("flow(-1, 0, 0)", x.flow(-1, 0, 0), -2);
        due("flow(0, 730, 0)", x.flow(0, 730, 0), -2);
        due("flow(0, -1, 0)", x.flow(0, -1, 0), -2);
        due("flow(0, 0, 4)", x.flow(0, 0, 4), -2);
        due("flow(0, 0, -1)", x.flow(0, 0, -1), -2);
        x = of("meter use 1 digits 3 age 0 at 0 0;meter below 0 use 2 digits 3 age 0 at 0 0;"
                + "meter below 1 use 4 digits 3 age 0 at 0 0;leak 2 rate 100 since 729;"
                + "leak 2 rate 200 since 729;empty 1 from 700 to 710;empty 1 from 705 to 729;");
        due("three deep", x.flow(0, 0, 1), 7);
        due("empties that overlap", x.flow(0, 710, 1), 5);
        due("through an empty one", x.flow(1, 729, 1), 304);
        due("at the last DAY", x.flow(0, 729, 1), 305);
        x = of("meter use 1 digits 3 age 0 at 0 0;meter below 0 use 2 digits 3 age 0 at 0 0;"
                + "flush 1 litres 50 on 20;flush 1 litres 70 on 20;flush 1 litres 90 on 729;");
        due("ahead of flushes", x.flow(0, 19, 1), 3);
        due("two flushes", x.flow(0, 20, 1), 123);
        due("behind flushes", x.flow(0, 21, 1), 3);
        due("a flush on the last DAY", x.flow(0, 729, 1), 93);
        manyCuts();
    }

    /** As many changes as a TOWN can tell of, each on a DAY of its own. */
    private static void manyCuts() {
        StringBuilder text = new StringBuilder("meter use 1 digits 6 age 0 at 0 0;"
                + "meter below 0 use 100 digits 6 age 0 at 0 0;");
        for (int i = 0; i < 6; i++) {
            text.append("leak 1 rate 1 since ").append(100 * i + 1).append(';');
            text.append("flush 1 litres 1000 on ").append(100 * i + 11).append(';');
            text.append("empty 1 from ").append(100 * i + 31).append(" to ").append(100 * i + 40).append(';');
        }
        WheelTown x = of(text.toString());
        int turns = 0;
        for (int day = 0; day < 730; day++) {
            int leaks = Math.min(6, (day + 99) / 100);
            int of = day % 100;
            boolean early = day < 600;
            int due = 1 + leaks + (early && of == 11 ? 1000 : 0) + (early && of >= 31 && of <= 40 ? 0 : 100);
            turns += due;
            due("many cuts, flow(0, " + day + ", 1)", x.flow(0, day, 1), due);
            due("many cuts, wheel(0, " + day + ")", x.wheel(0, day), turns);
        }
    }

    private static void promise7() {
        promise = 7;
        WheelTown x = base();
        due("turned(0, 0)", x.turned(0, 0), 80);
        due("turned(1, 0)", x.turned(1, 0), 41);
        due("turned(1, 364)", x.turned(1, 364), 41);
        due("turned(1, 365)", x.turned(1, 365), 40);
        due("turned(1, 150)", x.turned(1, 150), 57);
        due("turned(1, 515)", x.turned(1, 515), 56);
        due("turned(2, 0)", x.turned(2, 0), 10);
        due("turned(3, 0)", x.turned(3, 0), NOTHING);
        due("turned(-1, 0)", x.turned(-1, 0), NOTHING);
        due("turned(0, 730)", x.turned(0, 730), NOTHING);
        due("turned(0, -1)", x.turned(0, -1), NOTHING);
        x = of("meter use 51 digits 3 age 40 at 0 0 stuck;meter use 51 digits 3 age 40 at 0 0 backward;"
                + "meter use 51 digits 3 age 40 at 0 0 half;meter use 51 digits 3 age 40 at 0 0 double;"
                + "meter use 51 digits 3 age 40 at 0 0 old;meter use 51 digits 3 age 40 at 0 0 crawl;"
                + "meter use 51 digits 3 age 40 at 0 0;");
        // 20.4 and (in YEAR 1) 20.91 of 51 are cut to 20
        int[] want = {0, -51, 25, 102, 11, 31, 51};
        for (int m = 0; m < 7; m++) {
            due("turned(" + m + ", 0)", x.turned(m, 0), want[m]);
        }
        due("crawl by 41", x.turned(5, 729), 31);
        x = of("meter use 910 digits 3 age 0 at 0 0 old;meter use 909 digits 3 age 0 at 0 0 old;"
                + "meter use 999 digits 3 age 0 at 0 0 crawl;");
        due("old, 200", x.turned(0, 0), 200);
        due("old, 199.78", x.turned(1, 0), 199);
        due("crawl by 0", x.turned(2, 364), 999);
        due("crawl by 1", x.turned(2, 365), 990);
    }

    private static void promise8() {
        promise = 8;
        WheelTown x = base();
        int[] first = {80, 260, 347, 434, 521, 558, 595, 632, 669, 706, 793};
        for (int day = 0; day < first.length; day++) {
            due("wheel(0, " + day + ")", x.wheel(0, day), first[day]);
        }
        due("over its end", x.wheel(1, 0), 31);
        due("wheel(1, 4)", x.wheel(1, 4), 195);
        due("wheel(1, 9)", x.wheel(1, 9), 195);
        due("wheel(1, 10)", x.wheel(1, 10), 236);
        due("wheel(2, 729)", x.wheel(2, 729), 7300);
        due("wheel(3, 0)", x.wheel(3, 0), -2);
        due("wheel(-1, 0)", x.wheel(-1, 0), -2);
        due("wheel(0, 730)", x.wheel(0, 730), -2);
        due("wheel(0, -1)", x.wheel(0, -1), -2);
        x = of("meter use 300 digits 3 start 123456 age 0 at 0 0 backward;"
                + "meter use 1 digits 3 start 999999 age 0 at 0 0 stuck;");
        due("backward", x.wheel(0, 0), 156);
        due("below 0", x.wheel(0, 1), 856);
        due("start by DIGITS", x.wheel(1, 0), 999);
        x = of("meter use 999 digits 5 age 0 at 0 0;meter use 999 digits 6 start 999000 age 0 at 0 0;"
                + "meter use 100 digits 6 age 39 at 0 0 crawl;");
        due("5 DIGITS", x.wheel(0, 100), 899);
        due("6 DIGITS", x.wheel(1, 1), 998);
        due("crawl in YEAR 0", x.wheel(2, 364), 61 * 365);
        due("crawl in YEAR 1", x.wheel(2, 729), 61 * 365 + 60 * 365);
    }

    private static void readingsTold() {
        promise9();
        promise10();
        promise11to13();
        promise14();
    }

    private static void promise9() {
        promise = 9;
        WheelTown x = base();
        due("reading(0, 1, 5, 0)", x.reading(0, 1, 5, 0), 0);
        due("reading(1, 1, 999, 1)", x.reading(1, 1, 999, 1), 1);
        due("reading(0, 2, 9999, 2)", x.reading(0, 2, 9999, 2), 2);
        due("of the same DAY", x.reading(0, 2, 5, 0), -5);
        due("of a DAY ahead", x.reading(0, 1, 5, 0), -5);
        due("nothing happens", x.count(2), 3);
        due("of another METER", x.reading(2, 0, 0, 0), 3);
        due("WHEEL beyond", x.reading(0, 3, 10000, 0), -2);
        due("WHEEL beyond", x.reading(1, 3, 1000, 0), -2);
        due("WHEEL below", x.reading(0, 3, -1, 0), -2);
        due("sort 3", x.reading(0, 3, 5, 3), -2);
        due("sort -1", x.reading(0, 3, 5, -1), -2);
        due("METER 3", x.reading(3, 3, 5, 0), -2);
        due("METER -1", x.reading(-1, 3, 5, 0), -2);
        due("DAY 730", x.reading(0, 730, 5, 0), -2);
        due("DAY -1", x.reading(0, -1, 5, 0), -2);
        due("DAY 729", x.reading(0, 729, 5, 0), 4);
        x = base();
        for (int i = 0; i < 120; i++) {
            due("reading " + i, x.reading(0, i, 0, i % 3), i);
        }
        due("there are 120", x.reading(0, 500, 0, 0), -3);
        due("ahead of -5", x.reading(0, 0, 0, 0), -3);
        due("behind -2", x.reading(0, 730, 0, 0), -2);
        due("read, there are 120", x.read(1, 0, NONE), -3);
        due("count(2)", x.count(2), 120);
    }

    private static void promise10() {
        promise = 10;
        WheelTown x = base();
        due("read(0, 2, NONE)", x.read(0, 2, NONE), 0);
        due("as it shows", x.told(0, 2), 347);
        due("feet", x.told(0, 3), 0);
        due("read(0, 3, 0)", x.read(0, 3, 0), 1);
        due("434 as 443", x.told(1, 2), 443);
        due("read(0, 4, 1)", x.read(0, 4, 1), 2);
        due("521 as 251", x.told(2, 2), 251);
        due("read(0, 5, 2)", x.read(0, 5, 2), 3);
        due("0558 as 5058", x.told(3, 2), 5058);
        due("of 4 DIGITS", x.read(0, 6, 3), -2);
        due("of 3 DIGITS", x.read(1, 6, 2), -2);
        due("swapped -2", x.read(0, 6, -2), -2);
        due("METER 3", x.read(3, 6, NONE), -2);
        due("DAY 730", x.read(0, 730, NONE), -2);
        due("no later", x.read(0, 5, NONE), -5);
        due("of 3 DIGITS", x.read(1, 6, 1), 4);
        due("195 as 915", x.told(4, 2), 915);
        due("count(2)", x.count(2), 5);
    }

    private static void promise11to13() {
        promise = 11;
        WheelTown x = base();
        x.reading(0, 1, 5, 0);
        x.reading(1, 2, 6, 1);
        x.reading(0, 3, 7, 2);
        x.reading(0, 4, 8, 1);
        promise = 12;
        int[][] want = {{0, 1, 5, 0}, {1, 2, 6, 1}, {0, 3, 7, 2}, {0, 4, 8, 1}};
        for (int i = 0; i < 4; i++) {
            for (int what = 0; what < 4; what++) {
                due("told(" + i + ", " + what + ")", x.told(i, what), want[i][what]);
            }
        }
        due("told(4, 0)", x.told(4, 0), NONE);
        due("told(-1, 0)", x.told(-1, 0), NONE);
        due("told(0, 4)", x.told(0, 4), NONE);
        due("told(0, -1)", x.told(0, -1), NONE);
        promise = 13;
        due("readings(0, 0)", x.readings(0, 0), 2);
        due("readings(0, 1)", x.readings(0, 1), 1);
        due("readings(1, 0)", x.readings(1, 0), 1);
        due("readings(2, 0)", x.readings(2, 0), 0);
        due("readings(3, 0)", x.readings(3, 0), -2);
        due("readings(-1, 0)", x.readings(-1, 0), -2);
        due("readings(0, 2)", x.readings(0, 2), -2);
        due("readings(0, -1)", x.readings(0, -1), -2);
        promise = 11;
        due("undo(0)", x.undo(0), 4);
        due("undo(5)", x.undo(5), -2);
        due("undo(-1)", x.undo(-1), -2);
        due("undo(FAR)", x.undo(FAR), -2);
        due("undo(1)", x.undo(1), 3);
        due("gone", x.told(3, 0), NONE);
        due("the DAY is free again", x.reading(0, 4, 9, 0), 3);
        due("undo(4)", x.undo(4), 0);
        due("count(2)", x.count(2), 0);
    }

    private static void promise14() {
        promise = 14;
        WheelTown x = base();
        x.reading(1, 0, 995, 0);
        due("one alone", x.counted(1, 0), NONE);
        x.reading(1, 1, 500, 2);
        x.reading(0, 1, 500, 0);
        x.reading(1, 2, 36, 1);
        x.reading(1, 3, 36, 0);
        due("over its end", x.counted(1, 0), 41);
        due("the same", x.counted(1, 1), 0);
        due("not so many", x.counted(1, 2), NONE);
        due("FAR", x.counted(1, FAR), NONE);
        due("none at all", x.counted(2, 0), NONE);
        due("counted(3, 0)", x.counted(3, 0), -2);
        due("counted(-1, 0)", x.counted(-1, 0), -2);
        due("counted(1, -1)", x.counted(1, -1), -2);
        x = of("meter use 1 digits 6 age 0 at 0 0;");
        for (int i = 0; i < 120; i++) {
            x.reading(0, i, i * i, 0);
        }
        due("counted(0, 118)", x.counted(0, 118), 237);
        due("counted(0, 119)", x.counted(0, 119), NONE);
    }

    private static void balances() {
        promise15();
        promise16();
    }

    private static void promise15() {
        promise = 15;
        WheelTown x = base();
        x.read(0, 0, NONE);
        x.read(0, 2, NONE);
        x.reading(0, 3, 9000, 2);
        x.read(0, 5, NONE);
        due("balance(0, 1, 3, 0)", x.balance(0, 1, 3, 0), 267);
        due("balance(0, 1, 3, 1)", x.balance(0, 1, 3, 1), 267);
        due("balance(0, 2, 3, 1)", x.balance(0, 2, 3, 1), 267);
        due("balance(0, 2, 3, 0)", x.balance(0, 2, 3, 0), 0);
        due("balance(0, 2, 4, 1)", x.balance(0, 2, 4, 1), 478);
        due("balance(0, 4, 5, 1)", x.balance(0, 4, 5, 1), 211);
        due("balance(0, 4, 5, 0)", x.balance(0, 4, 5, 0), 0);
        due("balance(0, 0, 3, 1)", x.balance(0, 0, 3, 1), NONE);
        due("balance(0, 0, 3, 0)", x.balance(0, 0, 3, 0), 267);
        due("balance(0, 1, 7, 1)", x.balance(0, 1, 7, 1), NONE);
        due("balance(0, 1, 7, 0)", x.balance(0, 1, 7, 0), 478);
        due("balance(0, 0, 730, 0)", x.balance(0, 0, 730, 0), 478);
        due("balance(0, 700, 730, 0)", x.balance(0, 700, 730, 0), 0);
        due("balance(2, 1, 3, 0)", x.balance(2, 1, 3, 0), 0);
        due("balance(2, 1, 3, 1)", x.balance(2, 1, 3, 1), NONE);
        due("balance(3, 1, 3, 0)", x.balance(3, 1, 3, 0), -2);
        due("balance(-1, 1, 3, 0)", x.balance(-1, 1, 3, 0), -2);
        due("balance(0, 2, 2, 0)", x.balance(0, 2, 2, 0), -2);
        due("balance(0, 3, 2, 0)", x.balance(0, 3, 2, 0), -2);
        due("balance(0, -1, 2, 0)", x.balance(0, -1, 2, 0), -2);
        due("balance(0, 1, 731, 0)", x.balance(0, 1, 731, 0), -2);
        due("balance(0, 1, 3, 2)", x.balance(0, 1, 3, 2), -2);
        due("balance(0, 1, 3, -1)", x.balance(0, 1, 3, -1), -2);
        due("one at the end of DAY to is too late", x.balance(0, 1, 5, 0), 267);
        due("one at the end of DAY to less 1 is not", x.balance(0, 1, 6, 0), 478);
        due("one at the end of DAY from less 2 is too early", x.balance(0, 2, 6, 0), 211);
        int[] wheels = {0, 900, 100, 0};
        for (int day = 0; day < 4; day++) {
            x.reading(1, day, wheels[day], day % 2);
        }
        due("READING by READING", x.balance(1, 1, 4, 1), 2000);
        due("READING by READING", x.balance(1, 1, 4, 0), 2000);
    }

    private static void promise16() {
        promise = 16;
        WheelTown x = base();
        for (int m = 0; m < 3; m++) {
            x.read(m, 0, NONE);
            x.read(m, 2, NONE);
        }
        due("lost(0, 1, 3, 0)", x.lost(0, 1, 3, 0), 145);
        due("lost(0, 1, 3, 1)", x.lost(0, 1, 3, 1), 145);
        due("lost(0, 2, 3, 0)", x.lost(0, 2, 3, 0), -112);
        due("lost(0, 2, 3, 1)", x.lost(0, 2, 3, 1), 257);
        due("lost(1, 1, 3, 0)", x.lost(1, 1, 3, 0), -18);
        due("the greatest can't be told", x.lost(0, 0, 3, 1), NOTHING);
        due("that of one below can't be told", x.lost(0, 0, 3, 0), NOTHING);
        due("the least alone", x.lost(1, 0, 3, 0), 82 - 150);
        due("lost(3, 1, 3, 0)", x.lost(3, 1, 3, 0), NOTHING);
        due("lost(-1, 1, 3, 0)", x.lost(-1, 1, 3, 0), NOTHING);
        due("lost(0, 3, 3, 0)", x.lost(0, 3, 3, 0), NOTHING);
        due("lost(0, -1, 3, 0)", x.lost(0, -1, 3, 0), NOTHING);
        due("lost(0, 1, 731, 0)", x.lost(0, 1, 731, 0), NOTHING);
        due("lost(0, 1, 3, 2)", x.lost(0, 1, 3, 2), NOTHING);
        due("lost(0, 1, 3, -1)", x.lost(0, 1, 3, -1), NOTHING);
        x = of("meter use 1 digits 6 age 0 at 0 0;meter below 0 use 2 digits 6 age 0 at 0 0;"
                + "meter below 1 use 4 digits 6 age 0 at 0 0;leak 2 rate 8 since 0;");
        for (int m = 0; m < 2; m++) {
            x.read(m, 9, NONE);
            x.read(m, 19, NONE);
        }
        due("right below alone", x.lost(0, 10, 20, 1), 0);
        due("OWN USE of all DAYS", x.lost(1, 10, 20, 0), NOTHING);
        due("least of those below is 0", x.lost(1, 10, 20, 1), 120);
    }

    private static void faultsThatFit() {
        promise17();
        promise18to21();
        choicesCapped();
    }

    private static void promise17() {
        promise = 17;
        WheelTown x = base();
        due("no READINGS", x.fits(0), 127);
        x.read(0, 0, NONE);
        x.read(1, 0, NONE);
        x.read(2, 0, NONE);
        due("right or crawl by 0", x.fits(0), 3);
        due("crawl", x.fits(1), 2);
        due("half", x.fits(2), 16);
        x.reading(2, 1, 9999, 2);
        due("guesses aside", x.fits(2), 16);
        x.reading(2, 2, 31, 1);
        due("none", x.fits(2), 0);
        due("fits(3)", x.fits(3), -2);
        due("fits(-1)", x.fits(-1), -2);
        x = base();
        x.reading(2, 0, 9980, 1);
        due("backward", x.fits(2), 8);
        x.undo(1);
        x.reading(2, 0, 0, 1);
        due("stuck", x.fits(2), 4);
        x.undo(1);
        x.reading(2, 0, 40, 1);
        due("double", x.fits(2), 32);
        x.undo(1);
        x.reading(2, 0, 4, 1);
        due("old", x.fits(2), 64);
        x.undo(1);
        x.reading(2, 0, 20, 1);
        due("right", x.fits(2), 1);
    }

    private static void promise18to21() {
        WheelTown x = base();
        promise = 18;
        due("fewest() without READINGS", x.fewest(), 0);
        promise = 19;
        due("sets() without READINGS", x.sets(), 1);
        promise = 20;
        due("alone(0) without READINGS", x.alone(0), 0);
        for (int m = 0; m < 3; m++) {
            x.read(m, 0, NONE);
        }
        promise = 18;
        due("fewest()", x.fewest(), 2);
        promise = 19;
        due("sets()", x.sets(), 1);
        promise = 20;
        due("alone(0)", x.alone(0), 0);
        due("alone(1)", x.alone(1), 1);
        due("alone(2)", x.alone(2), 4);
        due("alone(3)", x.alone(3), NONE);
        due("alone(-1)", x.alone(-1), NONE);
        x.undo(1);
        promise = 19;
        due("0 for those without READINGS", x.sets(), 1);
        promise = 18;
        due("fewest()", x.fewest(), 1);
        promise = 20;
        x.reading(2, 2, 31, 0);
        due("none fits", x.alone(0), NONE);
        promise = 18;
        due("it can't be", x.fewest(), NONE);
        promise = 19;
        due("none", x.sets(), 0);
        x = of("meter use 1 digits 3 age 0 at 0 0;meter use 1 digits 3 age 0 at 0 0;"
                + "meter use 1 digits 3 age 0 at 0 0;meter use 500 digits 3 age 0 at 0 0;");
        x.reading(0, 0, 0, 0);
        x.reading(1, 0, 0, 0);
        x.reading(2, 0, 999, 0);
        x.reading(3, 0, 500, 0);
        promise = 18;
        due("fewest()", x.fewest(), 3);
        promise = 19;
        due("three, three, one and one", x.sets(), 9);
        promise = 20;
        due("several", x.alone(0), NONE);
        due("backward", x.alone(2), 3);
        due("0, though others fit", x.alone(3), 0);
        promise = 21;
        due("3 does not fit", x.ways(0), NONE);
        due("3 alone", x.ways(2), 0);
        due("0 and crawl too", x.ways(3), 2);
        due("ways(4)", x.ways(4), -2);
        due("ways(-1)", x.ways(-1), -2);
        due("without READINGS", base().ways(0), 6);
        x = of("meter use 500 digits 3 age 10 at 0 0;meter use 20 digits 3 age 10 at 0 0;");
        x.reading(0, 0, 500, 0);
        x.reading(1, 0, 20, 0);
        promise = 17;
        due("right or backward", x.fits(0), 9);
        due("right alone", x.fits(1), 1);
        promise = 19;
        due("all 0", x.sets(), 1);
        promise = 21;
        due("0 too", x.ways(0), 1);
    }

    private static void choicesCapped() {
        promise = 19;
        WheelTown x = of("meter use 1 digits 3 age 0 at 0 0;".repeat(12));
        for (int m = 0; m < 12; m++) {
            x.reading(m, 499, 0, 0);
            due("fits(" + m + ")", x.fits(m), 4 + 16 + 32 + 64);
            due("sets()", x.sets(), Math.min(1000000, 1L << 2 * m + 2));
        }
        due("fewest()", x.fewest(), 12);
    }

    private static void leaksAndWalks() {
        promise22and23();
        promise24and25();
        promise26and27();
        promise28();
    }

    private static final String DRIPPING =
            "meter use 10 digits 6 age 0 at 0 0;meter below 0 use 5 digits 6 age 0 at 0 0;"
            + "flush 1 litres 300 on 30;leak 1 rate 7 since 60;";

    private static void promise22and23() {
        promise = 22;
        WheelTown x = of(DRIPPING);
        due("all fit", x.leak(3), 520);
        due("leak(0)", x.leak(0), 1);
        due("leak(1)", x.leak(1), 1);
        due("leak(2)", x.leak(2), 0);
        due("leak(4)", x.leak(4), NONE);
        due("leak(-1)", x.leak(-1), NONE);
        promise = 23;
        due("span(1)", x.span(1), 39);
        due("no PIPE", x.span(0), NONE);
        due("span(2)", x.span(2), -2);
        due("span(-1)", x.span(-1), -2);
        promise = 22;
        x.read(0, 719, NONE);
        due("720 DAYS: 7 since 60, 11 since 300", x.leak(3), 2);
        due("leak(1)", x.leak(1), 7);
        due("leak(2)", x.leak(2), 60);
        promise = 23;
        due("span(1)", x.span(1), 4);
        x.undo(1);
        promise = 22;
        x.read(0, 59, NONE);
        due("none since 0", x.leak(3), 480);
        due("since 60", x.leak(2), 60);
        x.read(0, 119, NONE);
        due("leak(0)", x.leak(0), 1);
        due("leak(1)", x.leak(1), 7);
        due("leak(2)", x.leak(2), 60);
        due("leak(3)", x.leak(3), 1);
        promise = 23;
        due("span(1)", x.span(1), 0);
        promise = 22;
        x.reading(1, 0, 77, 2);
        due("guesses aside", x.leak(3), 1);
        x.reading(1, 1, 77, 1);
        due("another METER does not fit", x.leak(3), 0);
        due("leak(0)", x.leak(0), NONE);
        due("leak(1)", x.leak(1), NONE);
        due("leak(2)", x.leak(2), NONE);
        promise = 23;
        due("span(1)", x.span(1), NONE);
        manyPipes();
    }

    private static void manyPipes() {
        promise = 22;
        WheelTown x = of("meter use 1 digits 6 age 0 at 0 0 half;meter below 0 use 2 digits 6 age 0 at 0 0;"
                + "meter below 1 use 4 digits 6 age 0 at 0 0;meter use 1 digits 6 age 0 at 0 0;"
                + "meter below 3 use 1 digits 6 age 0 at 0 0;");
        due("three PIPES", x.leak(3), 3 * 520);
        x.read(3, 729, NONE);
        due("METER 3 is as told", x.leak(3), 2 * 520);
        x.reading(0, 0, 4, 0);
        due("half of 7 and 1, or of 7 and 2", x.leak(3), 4);
        due("leak(0)", x.leak(0), 1);
        due("leak(1)", x.leak(1), 1);
        due("leak(2)", x.leak(2), 0);
        x.reading(1, 0, 8, 0);
        due("METER 1 sees it too", x.leak(3), 1);
        due("leak(0)", x.leak(0), 2);
        due("leak(1)", x.leak(1), 2);
        promise = 23;
        due("span(1)", x.span(1), NONE);
        due("span(2)", x.span(2), 0);
        due("span(4)", x.span(4), NONE);
    }

    private static void promise24and25() {
        promise = 25;
        WheelTown x = base();
        due("right as crawl by 0", x.unlike(0, 0), 6);
        due("unlike(1, 0)", x.unlike(1, 0), 7);
        due("unlike(2, 0)", x.unlike(2, 0), 7);
        due("unlike(3, 0)", x.unlike(3, 0), -2);
        due("unlike(-1, 0)", x.unlike(-1, 0), -2);
        due("unlike(0, 730)", x.unlike(0, 730), -2);
        due("unlike(0, -1)", x.unlike(0, -1), -2);
        promise = 24;
        due("the first of several", x.next(0), 1);
        due("next(730)", x.next(730), -2);
        due("next(-1)", x.next(-1), -2);
        x.read(1, 0, NONE);
        due("one with a READING on that DAY", x.next(0), 2);
        due("by what fits", x.next(1), 2);
        x.reading(2, 5, 31, 2);
        due("a guess later is one too", x.next(4), 0);
        due("behind the guess", x.next(6), 2);
        x.read(0, 1, NONE);
        due("next(0)", x.next(0), NONE);
        promise = 25;
        due("one alone", x.unlike(1, 5), 1);
        x.reading(1, 1, 0, 0);
        due("none fits", x.unlike(1, 5), 0);
        promise = 24;
        due("next(5)", x.next(5), 0);
        x = of("meter use 1 digits 3 age 0 at 0 0;");
        x.reading(0, 0, 500, 0);
        due("with none unlike", x.next(1), 0);
    }

    private static void promise26and27() {
        promise = 26;
        WheelTown x = base();
        int[] minutes = {0, 0, 7, 7, 3, 3, 7, 7};
        for (int set = 0; set < 8; set++) {
            due("walk(" + set + ")", x.walk(set), minutes[set]);
        }
        due("walk(8)", x.walk(8), -2);
        due("walk(-1)", x.walk(-1), -2);
        due("walk(LOW)", x.walk(LOW), -2);
        due("METER 0 is none", new WheelTown().walk(0), -2);
        promise = 27;
        due("step(7, 0)", x.step(7, 0), 0);
        due("step(7, 1)", x.step(7, 1), 2);
        due("step(7, 2)", x.step(7, 2), 1);
        due("step(7, 3)", x.step(7, 3), NONE);
        due("step(6, 0)", x.step(6, 0), 2);
        due("step(6, 1)", x.step(6, 1), 1);
        due("step(4, 0)", x.step(4, 0), 2);
        due("step(4, 1)", x.step(4, 1), NONE);
        due("step(0, 0)", x.step(0, 0), NONE);
        due("step(1, 0)", x.step(1, 0), 0);
        due("step(7, FAR)", x.step(7, FAR), NONE);
        due("step(8, 0)", x.step(8, 0), -2);
        due("step(-1, 0)", x.step(-1, 0), -2);
        due("METER 0 is none", new WheelTown().step(0, 0), -2);
        x = of("meter use 1 digits 3 age 0 at 10 0;meter use 1 digits 3 age 0 at 5 0;"
                + "meter use 1 digits 3 age 0 at 15 0;meter use 1 digits 3 age 0 at 10 0;");
        due("walk(15)", x.walk(15), 15);
        int[] order = {0, 1, 3, 2};
        for (int i = 0; i < 4; i++) {
            due("the first as rows, " + i, x.step(15, i), order[i]);
        }
        due("step(12, 0)", x.step(12, 0), 3);
        due("another TOWN, other WALKS", walkInAnother(x), 99);
        x = of("meter use 1 digits 3 age 0 at 9 9;");
        due("one METER", x.walk(1), 0);
        due("step(1, 0)", x.step(1, 0), 0);
        due("walk(2)", x.walk(2), -2);
        twelveInARow();
    }

    private static int walkInAnother(WheelTown x) {
        feedText(x, "meter use 1 digits 3 age 0 at 0 0;meter use 1 digits 3 age 0 at 99 0;");
        x.town();
        return x.walk(3);
    }

    private static void twelveInARow() {
        promise = 26;
        StringBuilder text = new StringBuilder();
        int[] places = {50, 99, 0, 20, 70, 10, 90, 30, 60, 40, 80, 55};
        for (int place : places) {
            text.append("meter use 1 digits 3 age 0 at ").append(place).append(" 7;");
        }
        WheelTown x = of(text.toString());
        due("to the near end, then back", x.walk(4095), 49 + 99);
        due("to one end alone", x.walk(1 << 2 | 1 << 7 | 1), 50);
        int[] order = {0, 1, 6, 10, 4, 8, 11, 9, 7, 3, 5, 2};
        for (int i = 0; i < 12; i++) {
            due("past all others on the way back, " + i, x.step(4095, i), order[i]);
        }
    }

    private static void promise28() {
        promise = 28;
        WheelTown x = base();
        due("round(0, 0)", x.round(0, 0), 1);
        due("round(2, 0)", x.round(2, 0), 1);
        due("round(3, 0)", x.round(3, 0), 5);
        due("round(6, 0)", x.round(6, 0), 5);
        due("round(7, 0)", x.round(7, 0), 7);
        due("round(9999, 0)", x.round(9999, 0), 7);
        due("round(10000, 0)", x.round(10000, 0), -2);
        due("round(-1, 0)", x.round(-1, 0), -2);
        due("round(7, 730)", x.round(7, 730), -2);
        due("round(7, -1)", x.round(7, -1), -2);
        due("METER 0 is none", new WheelTown().round(7, 0), -2);
        x.reading(0, 0, 81, 0);
        due("without what tells nothing", x.round(7, 0), 6);
        x.reading(1, 0, 32, 0);
        due("the shortest", x.round(7, 0), 4);
        x.reading(2, 0, 11, 0);
        due("nothing", x.round(7, 0), 0);
        x = of("meter use 1 digits 3 age 0 at 10 0;meter use 1 digits 3 age 0 at 5 0;"
                + "meter use 1 digits 3 age 0 at 15 0;");
        due("the least bits", x.round(14, 0), 3);
        due("all", x.round(15, 0), 7);
        x = of("meter use 1 digits 3 age 0 at 10 0;meter use 1 digits 3 age 0 at 4 0;"
                + "meter use 1 digits 3 age 0 at 15 0;");
        due("the shorter one", x.round(6, 0), 5);
    }

    private static void bills() {
        promise29();
        promise30and31();
        promise32and33();
        promise45and46();
    }

    private static void promise29() {
        promise = 29;
        WheelTown x = base();
        due("bill(0, 0)", x.bill(0, 0), 100);
        due("bill(50, 0)", x.bill(50, 0), 125);
        due("bill(51, 0)", x.bill(51, 0), 125);
        due("bill(100, 0)", x.bill(100, 0), 150);
        due("bill(101, 0)", x.bill(101, 0), 150);
        due("bill(102, 0)", x.bill(102, 0), 151);
        due("bill(1000000, 0)", x.bill(1000000, 0), 900060);
        due("bill(1000001, 0)", x.bill(1000001, 0), -2);
        due("bill(-1, 0)", x.bill(-1, 0), -2);
        due("bill(0, 1)", x.bill(0, 1), -6);
        due("bill(0, 2)", x.bill(0, 2), -2);
        due("bill(0, -1)", x.bill(0, -1), -2);
        x = of("tariff 1 standing 9999 first 999 upto 999999 beyond 999;");
        due("bill(1000000, 1)", x.bill(1000000, 1), 9999 + 999000);
        due("bill(0, 0)", x.bill(0, 0), -6);
    }

    private static WheelTown guessed() {
        WheelTown x = base();
        x.read(0, 0, NONE);
        x.read(0, 2, NONE);
        x.reading(0, 5, 600, 2);
        return x;
    }

    private static void promise30and31() {
        promise = 30;
        WheelTown x = guessed();
        due("billed(0, 1, 3)", x.billed(0, 1, 3), 300);
        due("by a guess", x.billed(0, 3, 6), 287);
        due("from one to another, at once", x.billed(0, 1, 6), 100 + 50 + 378);
        due("billed(0, 2, 6)", x.billed(0, 2, 6), NONE);
        due("billed(0, 3, 5)", x.billed(0, 3, 5), NONE);
        due("billed(0, 0, 3)", x.billed(0, 0, 3), NONE);
        due("billed(1, 1, 3)", x.billed(1, 1, 3), NONE);
        due("billed(3, 1, 3)", x.billed(3, 1, 3), -2);
        due("billed(-1, 1, 3)", x.billed(-1, 1, 3), -2);
        due("billed(0, 3, 3)", x.billed(0, 3, 3), -2);
        due("billed(0, 3, 2)", x.billed(0, 3, 2), -2);
        due("billed(0, -1, 3)", x.billed(0, -1, 3), -2);
        due("billed(0, 3, 731)", x.billed(0, 3, 731), -2);
        x.reading(0, 364, 700, 0);
        x.reading(0, 365, 800, 0);
        due("by the YEAR of from", x.billed(0, 6, 366), 100 + 50 + 90);
        due("without a tariff", x.billed(0, 365, 366), NONE);
        nothingBilled();
        promise = 31;
        x = guessed();
        due("the greatest BALANCE can't be told", x.owed(0, 3, 6, 0), NOTHING);
        due("owed(0, 3, 6, 1)", x.owed(0, 3, 6, 1), 187);
        x.read(0, 7, NONE);
        due("owed(0, 3, 6, 0)", x.owed(0, 3, 6, 0), -29);
        due("owed(0, 1, 3, 0)", x.owed(0, 1, 3, 0), 0);
        due("owed(0, 1, 3, 1)", x.owed(0, 1, 3, 1), 0);
        due("owed(0, 2, 6, 1)", x.owed(0, 2, 6, 1), NOTHING);
        due("owed(0, 3, 6, 2)", x.owed(0, 3, 6, 2), NOTHING);
        due("owed(0, 3, 6, -1)", x.owed(0, 3, 6, -1), NOTHING);
        due("owed(3, 3, 6, 0)", x.owed(3, 3, 6, 0), NOTHING);
        due("owed(0, 6, 6, 0)", x.owed(0, 6, 6, 0), NOTHING);
        due("owed(0, 3, 731, 0)", x.owed(0, 3, 731, 0), NOTHING);
    }

    private static void nothingBilled() {
        WheelTown x = of("meter use 5 digits 3 age 0 at 0 0 stuck;court 0 homes 1 landlord 0;"
                + "tariff 0 standing 0 first 100 upto 0 beyond 200;");
        x.read(0, 0, NONE);
        x.read(0, 10, NONE);
        promise = 30;
        due("0 is told", x.billed(0, 1, 11), 0);
        promise = 31;
        due("owed(0, 1, 11, 0)", x.owed(0, 1, 11, 0), 0);
        promise = 45;
        due("appeal(0, 1, 11)", x.appeal(0, 1, 11), -10);
        promise = 46;
        due("one home", x.share(0, 1, 11, 0), 0);
        x.reading(0, 20, 100, 1);
        due("one home pays all", x.share(0, 11, 21, 0), 20);
        due("none is left", x.share(0, 11, 21, 2), 0);
    }

    private static void promise32and33() {
        promise = 33;
        WheelTown x = base();
        due("won(0, 0)", x.won(0, 0), 0);
        due("won(1, 0)", x.won(1, 0), 3285);
        due("won(1, 365)", x.won(1, 365), 3650);
        due("won(2, 0)", x.won(2, 0), 3650);
        due("won(3, 0)", x.won(3, 0), -2);
        due("won(-1, 0)", x.won(-1, 0), -2);
        due("won(0, 730)", x.won(0, 730), -2);
        due("won(0, -1)", x.won(0, -1), -2);
        promise = 32;
        due("change(0, 0)", x.change(0, 0), 0);
        due("change(499, 0)", x.change(499, 0), 0);
        due("change(500, 0)", x.change(500, 0), 2);
        due("change(600, 0)", x.change(600, 0), 4);
        due("change(1099, 0)", x.change(1099, 0), 4);
        due("change(1100, 0)", x.change(1100, 0), 6);
        due("change(99999, 0)", x.change(99999, 0), 6);
        due("as much for less", x.change(600, 365), 2);
        due("change(100000, 0)", x.change(100000, 0), -2);
        due("change(-1, 0)", x.change(-1, 0), -2);
        due("change(0, 730)", x.change(0, 730), -2);
        due("change(0, -1)", x.change(0, -1), -2);
        x = of("meter use 3 digits 3 age 0 at 0 0 double;meter use 3 digits 3 age 0 at 0 0 stuck;"
                + "meter use 3 digits 3 age 0 at 0 0 stuck;meter use 3 digits 6 age 0 at 0 0 backward;");
        due("0 at least", x.change(500, 0), 2);
        due("the least bits", x.change(799, 0), 2);
        due("backward", x.change(800, 0), 8);
        due("change(1800, 0)", x.change(1800, 0), 14);
        x = of("meter use 3 digits 6 age 0 at 0 0 stuck;meter use 3 digits 3 age 0 at 0 0 stuck;");
        due("the cheaper one", x.change(800, 0), 2);
        due("both", x.change(1300, 0), 3);
        x = of("meter use 3 digits 3 age 0 at 0 0 double;meter use 3 digits 3 age 0 at 0 0 stuck;"
                + "meter use 3 digits 3 age 0 at 0 0 stuck;meter use 3 digits 6 age 0 at 0 0 backward;");
        promise = 33;
        due("double", x.won(0, 0), 0);
        due("backward", x.won(3, 0), 365 * 6);
    }

    private static void promise45and46() {
        promise = 45;
        WheelTown x = guessed();
        due("appeal(0, 3, 6)", x.appeal(0, 3, 6), 38);
        due("appeal(0, 1, 3)", x.appeal(0, 1, 3), 0);
        due("appeal(0, 2, 6)", x.appeal(0, 2, 6), NOTHING);
        due("appeal(3, 3, 6)", x.appeal(3, 3, 6), NOTHING);
        due("appeal(0, 6, 6)", x.appeal(0, 6, 6), NOTHING);
        due("appeal(0, 3, 731)", x.appeal(0, 3, 731), NOTHING);
        promise = 46;
        due("each home", x.share(0, 3, 6, 0), 86);
        due("the landlord", x.share(0, 3, 6, 1), 28);
        due("left over", x.share(0, 3, 6, 2), 1);
        due("share(0, 2, 6, 0)", x.share(0, 2, 6, 0), NONE);
        due("share(0, 3, 6, 3)", x.share(0, 3, 6, 3), -2);
        due("share(0, 3, 6, -1)", x.share(0, 3, 6, -1), -2);
        due("no court", x.share(1, 3, 6, 0), -2);
        due("share(3, 3, 6, 0)", x.share(3, 3, 6, 0), -2);
        due("share(0, 6, 3, 0)", x.share(0, 6, 3, 0), -2);
        due("share(0, 3, 731, 0)", x.share(0, 3, 731, 0), -2);
        x = of("meter use 500 digits 4 age 0 at 0 0;court 0 homes 7 landlord 100;"
                + "tariff 0 standing 500 first 100 upto 0 beyond 999;");
        x.read(0, 0, NONE);
        x.read(0, 10, NONE);
        due("all of it", x.share(0, 1, 11, 1), 500 + 4995);
        due("none for homes", x.share(0, 1, 11, 0), 0);
        due("nothing left", x.share(0, 1, 11, 2), 0);
    }

    private static void nights() {
        promise34to36();
        promise37and38();
        promise43and44();
        promise47to50();
    }

    private static void promise34to36() {
        promise = 34;
        WheelTown x = base();
        due("night(0, 0)", x.night(0, 0), 0);
        due("nothing is flushed", x.night(0, 1), 0);
        due("night(0, 2)", x.night(0, 2), 7);
        due("night(0, 729)", x.night(0, 729), 7);
        due("ahead of METER 1", x.night(1, 2), 0);
        due("night(3, 2)", x.night(3, 2), -2);
        due("night(-1, 2)", x.night(-1, 2), -2);
        due("night(0, 730)", x.night(0, 730), -2);
        due("night(0, -1)", x.night(0, -1), -2);
        promise = 35;
        due("rod(1, 1)", x.rod(1, 1), 0);
        due("rod(1, 2)", x.rod(1, 2), 7);
        due("rod(2, 2)", x.rod(2, 2), 1);
        due("rod(0, 2)", x.rod(0, 2), 0);
        due("rod(3, 2)", x.rod(3, 2), -2);
        due("rod(-1, 2)", x.rod(-1, 2), -2);
        due("rod(0, 730)", x.rod(0, 730), -2);
        due("rod(0, -1)", x.rod(0, -1), -2);
        promise = 36;
        due("loudest(1)", x.loudest(1), NONE);
        due("loudest(2)", x.loudest(2), 1);
        due("loudest(730)", x.loudest(730), -2);
        due("loudest(-1)", x.loudest(-1), -2);
        x = of("meter use 1 digits 3 age 0 at 0 0;meter below 0 use 1 digits 3 age 0 at 2 0;"
                + "meter below 1 use 1 digits 3 age 0 at 0 2;leak 1 rate 5 since 0;leak 2 rate 5 since 9;"
                + "leak 2 rate 3 since 9;");
        promise = 34;
        due("three deep", x.night(0, 9), 13);
        due("two deep", x.night(1, 9), 8);
        promise = 35;
        due("each cut", x.rod(0, 9), 3);
        due("rod(1, 9)", x.rod(1, 9), 6);
        due("rod(2, 9)", x.rod(2, 9), 9);
        promise = 36;
        due("loudest(8)", x.loudest(8), 1);
        due("loudest(9)", x.loudest(9), 2);
        x = of("meter use 1 digits 3 age 0 at 0 0;meter below 0 use 1 digits 3 age 0 at 0 0;"
                + "leak 1 rate 5 since 0;");
        due("the first of several", x.loudest(0), 0);
        x = of("meter use 1 digits 3 age 0 at 0 0;meter below 0 use 1 digits 3 age 0 at 0 1;"
                + "leak 1 rate 1 since 0;");
        due("by 1 alone", x.loudest(0), 1);
    }

    private static void promise37and38() {
        promise = 37;
        WheelTown x = base();
        due("drought(50, 0)", x.drought(50, 0), 0);
        due("drought(49, 0)", x.drought(49, 0), 2);
        due("drought(50, 150)", x.drought(50, 150), 2);
        due("drought(19, 0)", x.drought(19, 0), 6);
        due("drought(9, 0)", x.drought(9, 0), 7);
        due("drought(0, 5)", x.drought(0, 5), 5);
        due("drought(9999, 0)", x.drought(9999, 0), 0);
        due("drought(10000, 0)", x.drought(10000, 0), -2);
        due("drought(-1, 0)", x.drought(-1, 0), -2);
        due("drought(0, 730)", x.drought(0, 730), -2);
        due("drought(0, -1)", x.drought(0, -1), -2);
        promise = 38;
        due("limit(100, 0)", x.limit(100, 0), 9999);
        due("limit(80, 0)", x.limit(80, 0), 9999);
        due("limit(79, 0)", x.limit(79, 0), 49);
        due("limit(70, 0)", x.limit(70, 0), 40);
        due("limit(31, 0)", x.limit(31, 0), 10);
        due("limit(30, 0)", x.limit(30, 0), 10);
        due("limit(29, 0)", x.limit(29, 0), 9);
        due("limit(0, 0)", x.limit(0, 0), 0);
        due("limit(30, 5)", x.limit(30, 5), 9999);
        due("limit(99, 150)", x.limit(99, 150), 69);
        for (int sum = 0; sum < 80; sum++) {
            int due = sum < 30 ? sum / 3 : sum < 50 ? (sum - 10) / 2 : sum - 30;
            due("limit(" + sum + ", 0)", x.limit(sum, 0), due);
        }
        due("limit(999999, 0)", x.limit(999999, 0), 9999);
        due("limit(1000000, 0)", x.limit(1000000, 0), -2);
        due("limit(-1, 0)", x.limit(-1, 0), -2);
        due("limit(0, 730)", x.limit(0, 730), -2);
        due("limit(0, -1)", x.limit(0, -1), -2);
    }

    private static void promise43and44() {
        promise = 43;
        WheelTown x = of("meter use 1 digits 3 age 0 at 0 0;meter below 0 use 1 digits 3 age 0 at 2 0;"
                + "meter below 1 use 1 digits 3 age 0 at 0 2;leak 2 rate 5 since 9;leak 1 rate 4 since 0;"
                + "leak 2 rate 3 since 9;leak 1 rate 1 since 729;");
        due("burst(0, 0)", x.burst(0, 0), 4);
        due("burst(0, 1)", x.burst(0, 1), 0);
        due("burst(0, 9)", x.burst(0, 9), 8);
        due("burst(0, 10)", x.burst(0, 10), 0);
        due("burst(0, 729)", x.burst(0, 729), 1);
        due("burst(1, 9)", x.burst(1, 9), 8);
        due("burst(1, 0)", x.burst(1, 0), 0);
        due("burst(2, 9)", x.burst(2, 9), 0);
        due("burst(3, 9)", x.burst(3, 9), NOTHING);
        due("burst(-1, 9)", x.burst(-1, 9), NOTHING);
        due("burst(0, 730)", x.burst(0, 730), NOTHING);
        due("burst(0, -1)", x.burst(0, -1), NOTHING);
        promise = 44;
        due("bursts(0, 0)", x.bursts(0, 0), 0);
        due("bursts(0, 1)", x.bursts(0, 1), 9);
        due("bursts(0, 2)", x.bursts(0, 2), 729);
        due("bursts(0, 3)", x.bursts(0, 3), NONE);
        due("bursts(1, 0)", x.bursts(1, 0), 9);
        due("bursts(1, 1)", x.bursts(1, 1), NONE);
        due("bursts(2, 0)", x.bursts(2, 0), NONE);
        due("bursts(0, FAR)", x.bursts(0, FAR), NONE);
        due("bursts(0, -1)", x.bursts(0, -1), -2);
        due("bursts(3, 0)", x.bursts(3, 0), -2);
        due("bursts(-1, 0)", x.bursts(-1, 0), -2);
    }

    private static void promise47to50() {
        promise = 47;
        WheelTown x = base();
        due("garden(1, 0)", x.garden(1, 0), 1800);
        due("garden(1, 1)", x.garden(1, 1), 1800);
        due("garden(0, 0)", x.garden(0, 0), 0);
        due("garden(3, 0)", x.garden(3, 0), -2);
        due("garden(-1, 0)", x.garden(-1, 0), -2);
        due("garden(1, 2)", x.garden(1, 2), -2);
        due("garden(1, -1)", x.garden(1, -1), -2);
        promise = 48;
        due("vacant(1)", x.vacant(1), 5);
        due("vacant(0)", x.vacant(0), 0);
        due("vacant(3)", x.vacant(3), -2);
        due("vacant(-1)", x.vacant(-1), -2);
        x = of("meter use 1 summer 3 digits 3 age 0 at 0 0;empty 0 from 140 to 150;empty 0 from 145 to 159;"
                + "empty 0 from 600 to 729;");
        due("what overlaps, once", x.vacant(0), 20 + 130);
        due("from the first DAY on", of("meter use 1 digits 3 age 0 at 0 0;empty 0 from 0 to 1;").vacant(0), 2);
        promise = 47;
        due("EMPTY DAYS aside", x.garden(0, 0), 3 * 80);
        due("garden(0, 1)", x.garden(0, 1), 3 * 85);
        promise = 49;
        x = guessed();
        due("missed(0)", x.missed(0), 2);
        x.read(0, 7, NONE);
        due("guesses aside", x.missed(0), 5);
        due("none", x.missed(1), NONE);
        x.read(1, 7, NONE);
        due("one", x.missed(1), NONE);
        due("missed(3)", x.missed(3), -2);
        due("missed(-1)", x.missed(-1), -2);
        promise = 50;
        due("guess(0, 10)", x.guess(0, 10), 803);
        due("guess(0, 7)", x.guess(0, 7), 632);
        due("guess(0, 6)", x.guess(0, 6), 881);
        due("guess(0, 3)", x.guess(0, 3), 480);
        due("guess(0, 1)", x.guess(0, 1), NONE);
        due("guess(0, 729)", x.guess(0, 729), (632 + 285 * 722 / 5) % 10000);
        due("guess(1, 729)", x.guess(1, 729), NONE);
        due("guess(1, 6), none at all", x.guess(1, 6), NONE);
        x.reading(1, 8, 194, 1);
        due("DAYS next to each other, over its end", x.guess(1, 9), 193);
        due("guess(3, 0)", x.guess(3, 0), -2);
        due("guess(-1, 0)", x.guess(-1, 0), -2);
        due("guess(0, 730)", x.guess(0, 730), -2);
        due("guess(0, -1)", x.guess(0, -1), -2);
    }

    private static void offs() {
        promise39();
        promise40and41();
        promise42();
    }

    private static void promise39() {
        promise = 39;
        WheelTown x = base();
        x.read(2, 2, NONE);
        x.read(2, 3, 0);
        x.reading(1, 0, 990, 0);
        x.reading(0, 3, 600, 2);
        x.reading(0, 4, 521, 1);
        due("errors(0, 0)", x.errors(0, 0), 3);
        due("errors(0, 1)", x.errors(0, 1), 2);
        due("errors(0, 2)", x.errors(0, 2), 36 + 41);
        due("errors(0, 3)", x.errors(0, 3), 41);
        due("errors(1, 0)", x.errors(1, 0), 1);
        due("errors(1, 1)", x.errors(1, 1), 0);
        due("errors(1, 3)", x.errors(1, 3), 0);
        due("errors(2, 1)", x.errors(2, 1), 1);
        due("errors(2, 2)", x.errors(2, 2), 166);
        due("errors(3, 0)", x.errors(3, 0), -2);
        due("errors(-1, 0)", x.errors(-1, 0), -2);
        due("errors(0, 4)", x.errors(0, 4), -2);
        due("errors(0, -1)", x.errors(0, -1), -2);
    }

    private static void promise40and41() {
        promise = 40;
        WheelTown x = base();
        due("off(0, 0)", x.off(0, 0), 0);
        due("off(1, 0)", x.off(1, 0), -180);
        due("off(1, 365)", x.off(1, 365), -200);
        due("off(2, 0)", x.off(2, 0), -500);
        due("nothing goes through", x.off(1, 5), NOTHING);
        due("off(3, 0)", x.off(3, 0), NOTHING);
        due("off(-1, 0)", x.off(-1, 0), NOTHING);
        due("off(0, 730)", x.off(0, 730), NOTHING);
        due("off(0, -1)", x.off(0, -1), NOTHING);
        promise = 41;
        due("worst(0)", x.worst(0), 2);
        due("worst(730)", x.worst(730), -2);
        due("worst(-1)", x.worst(-1), -2);
        x = of("meter use 7 digits 3 age 0 at 0 0;meter use 7 digits 3 age 0 at 0 0 old;"
                + "meter use 7 digits 3 age 0 at 0 0 double;meter use 7 digits 3 age 0 at 0 0 stuck;"
                + "meter use 7 digits 3 age 0 at 0 0 backward;empty 4 from 1 to 2;empty 2 from 2 to 2;"
                + "empty 1 from 3 to 3;empty 2 from 3 to 3;empty 3 from 3 to 3;empty 4 from 3 to 3;");
        promise = 40;
        due("(1 - 7) * 1000 / 7, cut", x.off(1, 0), -857);
        due("double", x.off(2, 0), 1000);
        due("stuck", x.off(3, 0), -1000);
        due("backward", x.off(4, 0), -2000);
        promise = 41;
        due("backward", x.worst(0), 4);
        due("the first of several", x.worst(1), 2);
        due("stuck", x.worst(2), 3);
        promise = 41;
        due("METER 0", of("meter use 7 digits 3 age 0 at 0 0 half;").worst(0), 0);
        due("all OFF by 0, or empty", x.worst(3), NONE);
    }

    private static void promise42() {
        promise = 42;
        WheelTown x = base();
        due("lot(5, 3, 0, 100)", x.lot(5, 3, 0, 100), 2);
        due("lot(5, 3, 0, 200)", x.lot(5, 3, 0, 200), 1);
        due("lot(5, 3, 0, 180)", x.lot(5, 3, 0, 180), 1);
        due("lot(5, 3, 0, 179)", x.lot(5, 3, 0, 179), 2);
        due("lot(5, 3, 0, 9999)", x.lot(5, 3, 0, 9999), 0);
        due("not told: not", x.lot(5, 3, 5, 0), 1);
        due("from 0: x / 65536 is 0, METER 0", x.lot(0, 1, 0, 0), 0);
        due("from 0: then 21468, METER 1", x.lot(0, 2, 0, 0), 1);
        due("METER 1", x.lot(5, 1, 0, 100), 1);
        due("METER 1", x.lot(5, 1, 0, 180), 0);
        due("lot(5, 0, 0, 0)", x.lot(5, 0, 0, 0), -2);
        due("lot(5, 4, 0, 0)", x.lot(5, 4, 0, 0), -2);
        due("lot(-1, 1, 0, 0)", x.lot(-1, 1, 0, 0), -2);
        due("lot(2000000001, 1, 0, 0)", x.lot(2000000001, 1, 0, 0), -2);
        due("lot(0, 1, 730, 0)", x.lot(0, 1, 730, 0), -2);
        due("lot(0, 1, -1, 0)", x.lot(0, 1, -1, 0), -2);
        due("lot(0, 1, 0, 10000)", x.lot(0, 1, 0, 10000), -2);
        due("lot(0, 1, 0, -1)", x.lot(0, 1, 0, -1), -2);
        due("no METERS", new WheelTown().lot(0, 1, 0, 0), -2);
        // x / 65536 from 5: 18655, 8457, 10616; from 2000000000: 3304, 7133, 3221
        x = of("meter use 2 digits 3 age 0 at 0 0;meter use 2 digits 3 age 0 at 0 0;"
                + "meter use 2 digits 3 age 0 at 0 0 half;meter use 2 digits 3 age 0 at 0 0;");
        due("3", x.lot(5, 1, 0, 0), 0);
        due("3, 0", x.lot(5, 2, 0, 0), 0);
        due("3, 0, 1", x.lot(5, 3, 0, 0), 0);
        due("3, 0, 1, 2", x.lot(5, 4, 0, 0), 1);
        due("0", x.lot(2000000000, 1, 0, 0), 0);
        due("0, 3", x.lot(2000000000, 2, 0, 0), 0);
        due("0, 3, 2", x.lot(2000000000, 3, 0, 0), 1);
        int[] seeds = {0, 1, 7, 123456789, 1999999999};
        int[][] orders = {{0, 1, 3, 4, 2}, {3, 2, 0, 4, 1}, {4, 2, 3, 0, 1}, {1, 4, 2, 3, 0}, {3, 4, 0, 2, 1}};
        for (int half = 0; half < 5; half++) {
            StringBuilder text = new StringBuilder();
            for (int m = 0; m < 5; m++) {
                text.append("meter use 2 digits 3 age 0 at 0 0").append(m == half ? " half;" : ";");
            }
            x = of(text.toString());
            for (int i = 0; i < seeds.length; i++) {
                int drawn = 0;
                for (int n = 1; n <= 5; n++) {
                    drawn += orders[i][n - 1] == half ? 1 : 0;
                    due("lot(" + seeds[i] + ", " + n + ") for " + half, x.lot(seeds[i], n, 0, 0), drawn);
                }
            }
        }
    }

    private static void imagesAndSlots() {
        promise51();
        promise52();
        promise53and54();
        promise55to57();
        cutByWidth();
    }

    private static void promise51() {
        promise = 51;
        WheelTown x = base();
        due("it has nothing", x.judge(0, 0, 0), -6);
        x.row(0, 2, 4);
        int[] wheels = {80, 260, 347, 435};
        for (int i = 0; i < 4; i++) {
            x.write(0, i, wheels[i]);
        }
        due("judge(0, 0, 0)", x.judge(0, 0, 0), 3);
        due("judge(0, 0, 1)", x.judge(0, 0, 1), 0);
        x.write(0, 3, 434);
        due("all", x.judge(0, 0, 0), 4);
        due("judge(0, 1, 0)", x.judge(0, 1, 0), 0);
        due("judge(4, 0, 0)", x.judge(4, 0, 0), -2);
        due("judge(-1, 0, 0)", x.judge(-1, 0, 0), -2);
        due("judge(0, 3, 0)", x.judge(0, 3, 0), -2);
        due("judge(0, -1, 0)", x.judge(0, -1, 0), -2);
        due("judge(0, 0, 730)", x.judge(0, 0, 730), -2);
        due("judge(0, 0, -1)", x.judge(0, 0, -1), -2);
        due("judge(1, 0, 730)", x.judge(1, 0, 730), -2);
        x.row(1, 3, 0);
        due("a row of none", x.judge(1, 0, 0), 0);
        x.row(1, 3, 3);
        for (int i = 0; i < 3; i++) {
            x.write(1, i, 7300);
        }
        due("beyond DAY 729", x.judge(1, 2, 729), 1);
        x.write(1, 0, 7300 + (1L << 32));
        due("of 8 bytes", x.judge(1, 2, 729), 0);
        x = of("meter use 9 digits 3 age 0 at 0 0 stuck;");
        x.row(0, 0, 60);
        due("all 60", x.judge(0, 0, 670), 60);
        due("59", x.judge(0, 0, 671), 59);
        due("one", x.judge(0, 0, 729), 1);
    }

    private static void promise52() {
        promise = 52;
        WheelTown x = base();
        x.read(0, 0, NONE);
        x.read(1, 0, NONE);
        x.feed(0, 0, 0, 0, 0);
        x.row(0, 0, 0);
        x.row(3, 3, 60);
        int[] want = {3, 1, 2, 1, 8, 20, 2};
        for (int what = 0; what < 7; what++) {
            due("count(" + what + ")", x.count(what), want[what]);
        }
        due("count(7)", x.count(7), NONE);
        due("count(-1)", x.count(-1), NONE);
        x = of("tariff 0 standing 0 first 0 upto 0 beyond 0;tariff 1 standing 0 first 0 upto 0 beyond 0;");
        due("count(3)", x.count(3), 2);
    }

    private static void promise53and54() {
        promise = 54;
        WheelTown x = base();
        due("it has nothing", x.back(0), -6);
        due("back(3)", x.back(3), -2);
        due("back(-1)", x.back(-1), -2);
        promise = 53;
        due("keep(3)", x.keep(3), -2);
        due("keep(-1)", x.keep(-1), -2);
        x.read(0, 0, NONE);
        x.read(0, 2, NONE);
        due("keep(0)", x.keep(0), 0);
        x.undo(1);
        x.read(1, 1, NONE);
        x.read(2, 1, NONE);
        due("keep(2)", x.keep(2), 0);
        feedText(x, DRIPPING);
        due("town()", x.town(), 4);
        due("keep(1)", x.keep(1), 0);
        due("leak(3)", x.leak(3), 520);
        due("walk(2)", x.walk(2), 0);
        x.feed(1, 2, 3, 4, 5);
        x.row(0, 1, 5);
        promise = 54;
        due("back(0)", x.back(0), 0);
        due("READINGS", x.count(2), 2);
        due("told(1, 2)", x.told(1, 2), 347);
        due("METERS", x.count(0), 3);
        due("LINES", x.count(4), 8);
        due("tariffs", x.count(3), 1);
        due("wheel(1, 0)", x.wheel(1, 0), 31);
        due("walk(2)", x.walk(2), 7);
        due("share", x.share(0, 1, 3, 1), 30);
        due("the TAPE stays", x.count(5), 20);
        due("SLOTS stay", x.count(6), 1);
        x.undo(2);
        due("back(2)", x.back(2), 0);
        due("READINGS", x.count(2), 3);
        due("told(2, 0)", x.told(2, 0), 2);
        due("back(0) again", x.back(0), 0);
        due("the IMAGE stays", x.count(2), 2);
        due("back(1)", x.back(1), 0);
        due("count(0)", x.count(0), 2);
        due("leak(3)", x.leak(3), 520);
        due("walk(2)", x.walk(2), 0);
        due("vacant(1)", x.vacant(1), 0);
        x.read(0, 719, NONE);
        due("leak(3)", x.leak(3), 2);
        due("keep(1)", x.keep(1), 0);
        x.undo(1);
        x.back(1);
        due("kept anew", x.count(2), 1);
        due("leak(3)", x.leak(3), 2);
    }

    private static void promise55to57() {
        promise = 55;
        WheelTown x = base();
        due("row(0, 3, 61)", x.row(0, 3, 61), -2);
        due("row(4, 0, 1)", x.row(4, 0, 1), -2);
        due("row(-1, 0, 1)", x.row(-1, 0, 1), -2);
        due("row(0, 4, 1)", x.row(0, 4, 1), -2);
        due("row(0, -1, 1)", x.row(0, -1, 1), -2);
        due("row(0, 0, -1)", x.row(0, 0, -1), -3);
        due("row(0, 4, -1)", x.row(0, 4, -1), -2);
        due("none yet", x.count(6), 0);
        due("row(0, 3, 60)", x.row(0, 3, 60), 0);
        due("row(0, 0, LOW)", x.row(0, 0, LOW), -3);
        promise = 56;
        due("the SLOT stays", x.write(0, 59, 80), 0);
        due("write(0, 60, 1)", x.write(0, 60, 1), -7);
        due("write(0, -1, 1)", x.write(0, -1, 1), -7);
        due("write(1, 0, 1)", x.write(1, 0, 1), -6);
        due("write(1, -1, 1)", x.write(1, -1, 1), -6);
        due("write(4, 0, 1)", x.write(4, 0, 1), -2);
        due("write(-1, 0, 1)", x.write(-1, 0, 1), -2);
        x.write(0, 0, 80);
        due("written", x.judge(0, 0, 0), 1);
        promise = 55;
        x.row(0, 3, 2);
        due("all 0", x.judge(0, 0, 0), 0);
        due("shorter", x.write(0, 2, 1), -7);
        promise = 57;
        x.write(0, 0, 80);
        x.write(0, 1, 260);
        x.row(1, 3, 3);
        x.row(2, 2, 3);
        due("paste(0, 0, 1, 0, 2)", x.paste(0, 0, 1, 0, 2), 0);
        due("put", x.judge(1, 0, 0), 2);
        due("onto itself, as they were", x.paste(1, 0, 1, 1, 2), 0);
        x.write(1, 0, 31);
        due("METER 1: 31, 72", x.judge(1, 1, 0), 1);
        x.paste(1, 1, 1, 0, 2);
        due("back again: 80, 260, 260", x.judge(1, 0, 0), 2);
        due("none", x.paste(0, 2, 1, 3, 0), 0);
        due("beyond the one", x.paste(0, 1, 1, 0, 2), -7);
        due("beyond the other", x.paste(0, 0, 1, 2, 2), -7);
        due("FAR", x.paste(0, 0, 1, 0, FAR), -7);
        due("FAR", x.paste(0, FAR, 1, 0, 1), -7);
        due("FAR", x.paste(0, 0, 1, FAR, FAR), -7);
        due("below 0", x.paste(0, -1, 1, 0, 1), -7);
        due("below 0", x.paste(0, 0, 1, -1, 1), -7);
        due("below 0", x.paste(0, 0, 1, 0, -1), -7);
        due("below 0", x.paste(0, 0, 1, 0, LOW), -7);
        due("none, beyond", x.paste(0, 3, 1, 0, 0), -7);
        due("another WIDTH", x.paste(0, 0, 2, 0, 1), -8);
        due("another WIDTH ahead of -7", x.paste(0, 9, 2, 0, 1), -8);
        due("has nothing", x.paste(3, 0, 0, 0, 1), -6);
        due("has nothing", x.paste(0, 0, 3, 0, 1), -6);
        due("no such SLOT", x.paste(4, 0, 0, 0, 1), -2);
        due("no such SLOT", x.paste(0, 0, 4, 0, 1), -2);
        due("no such SLOT ahead of -6", x.paste(3, 0, -1, 0, 1), -2);
        due("nothing happened", x.judge(0, 0, 0), 2);
    }

    private static void cutByWidth() {
        promise = 56;
        WheelTown x = of("meter use 80 digits 6 age 0 at 0 0;meter use 200 digits 6 age 0 at 0 0;");
        long[] more = {256, 65536, 1L << 32};
        for (int width = 0; width < 3; width++) {
            x.row(0, width, 1);
            x.write(0, 0, 80 + more[width]);
            due("cut to WIDTH " + width, x.judge(0, 0, 0), 1);
            x.write(0, 0, 80 - 5 * more[width]);
            due("cut to WIDTH " + width, x.judge(0, 0, 0), 1);
            x.write(0, 0, 80 + more[width] / 2);
            due("not cut more than that", x.judge(0, 0, 0), 0);
        }
        x.row(0, 3, 1);
        x.write(0, 0, 80 + more[2]);
        due("of 8 bytes", x.judge(0, 0, 0), 0);
        x.row(0, 0, 1);
        x.write(0, 0, 200);
        due("a byte of 200 is -56", x.judge(0, 1, 0), 0);
    }
}
