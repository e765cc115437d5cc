/** The document's promises 1 to 16, sentence by sentence: each that names a boundary case has a test of its own. */
public final class PromisesTest {
    private static final int LEAST = Integer.MIN_VALUE;
    private static final int MOST = Integer.MAX_VALUE;
    private static final String A = "A:1:1:1::0+0\n";
    private static final String TEXT = "A:123:100:60:17:5+2\nB:1:1000:500::0+4\n/0100-0199:1\n/0200-4000:3\n*A:08-17\n";
    private static final int[] NO_LETTERS_OF_TEXT = {'C', 'Z', '@', 'a', 'A' + 256, 'A' - 256, 0, 1, -1, LEAST, MOST};

    public static void main(String[] args) {
        newObject();
        signsTaken();
        signsAtMost();
        readNumber();
        readWrongPlace();
        readSignsGone();
        readNoRoom();
        readRightTextFirst();
        readWrongDay();
        todayDays();
        todayNoneActs();
        todayRefused();
        fitsHowMany();
        fitsPack();
        fitsNoneActs();
        atByPrice();
        atEqualPrices();
        atNotSoMany();
        atNotAsked();
        atBehindReadOrToday();
        priceWeights();
        priceNoLetter();
        priceStateFirst();
        zoneCodes();
        zoneNoRange();
        hoursOfDay();
        hoursNotTold();
        hoursOrder();
        labelLength();
        labelNothing();
        labelOrder();
        printLine();
        printRefused();
        outSigns();
        outNone();
        numberTaken();
        numberAtMost();
        trackRight();
        trackNotEight();
        trackForm();
        trackNoService();
        trackZone();
        trackCheckLetter();
        trackFirstThing();
        trackSignsGone();
        trackNoneActs();
        toldWhat();
        toldRefused();
        countWhat();
        countOther();
        refusedCallsChangeNothing();
        Due.end();
    }

    private static String services(int howMany) {
        StringBuilder text = new StringBuilder();
        for (int i = 0; i < howMany; i++) {
            text.append((char) ('A' + i)).append(A.substring(1));
        }
        return text.toString();
    }

    private static String ranges(int howMany) {
        StringBuilder text = new StringBuilder();
        for (int i = 0; i < howMany; i++) {
            text.append(String.format("/%04d-%04d:1\n", i, i));
        }
        return text.toString();
    }

    private static void newObject() {
        Due.sentence("1: No editions; no signs.");
        Trial run = new Trial();
        for (int what = 0; what <= 5; what++) {
            run.due(0, "count", what);
        }
        run.due(Due.NO_ELEMENT, "told", 1, 0);
        run.due(Due.NO_ELEMENT, "print", 1, 'A');
        run.due(Due.BAD_ARGUMENT, "out", 0);
        run.due(-1, "at", 0);
        run.due(1, "read", 0);
        run.due(0, "told", 1, 1);
        run.due(-1, "track");
    }

    private static void signsTaken() {
        Due.sentence("2: A sign of the text (10 or 32 .. 126");
        Trial run = new Trial();
        int taken = 0;
        for (int c = -2; c <= 260; c++) {
            boolean may = c == 10 || c >= 32 && c <= 126;
            run.due(may ? Trial.GOES : Due.BAD_ARGUMENT, "sign", c);
            taken += may ? 1 : 0;
        }
        int[] refused = {LEAST, LEAST + 10, LEAST + 65, -65, -10, 256 + 65, 65536 + 65, MOST};
        for (int c : refused) {
            run.due(Due.BAD_ARGUMENT, "sign", c);
        }
        run.due(taken, "count", 1);
    }

    private static void signsAtMost() {
        Due.sentence("2: at most 500)");
        Trial run = new Trial();
        run.tell("A:1:" + "1".repeat(495));
        run.due(499, "count", 1);
        run.due(Trial.GOES, "sign", '1');
        run.due(500, "count", 1);
        run.due(Due.NO_ROOM, "sign", ':');
        run.due(Due.NO_ROOM, "sign", 10);
        run.due(500, "count", 1);
        run.due(-5, "read", 0);
        run.due(Trial.GOES, "sign", 'A');
        run.due(1, "count", 1);
    }

    private static void readNumber() {
        Due.sentence("3: The text is read as an edition for a day: its number");
        Trial run = new Trial();
        run.reads(1, "", 1000);
        run.reads(2, A, 0);
        run.reads(3, A, 1000);
        run.reads(4, TEXT, 7);
        int[] days = {1000, 0, 1000, 7};
        int[] services = {0, 1, 1, 2};
        for (int i = 0; i < 4; i++) {
            run.due(days[i], "told", i + 1, 0);
            run.due(services[i], "told", i + 1, 1);
        }
    }

    private static void readWrongPlace() {
        Due.sentence("3: or -1 less the place at which it is wrong");
        Trial first = new Trial();
        first.reads(-1, "?", 0);
        first.reads(-2, "A", 0);
        first.reads(-13, "A:1:1:1::0+0", 0);
        first.due(0, "count", 0);
        // 26 services and 12 ranges are 494 signs; the last 6 begin one range more.
        Trial last = new Trial();
        last.reads(-501, services(26) + ranges(12) + "/0012-", 0);
        last.due(0, "count", 0);
        Trial lastSign = new Trial();
        lastSign.reads(-500, services(26) + ranges(12) + "/0012x", 0);
    }

    private static void readSignsGone() {
        Due.sentence("3: The signs are gone.");
        Trial run = new Trial();
        run.reads(-3, "A:~", 0);
        run.due(0, "count", 1);
        run.reads(1, A, 0);
        run.due(0, "count", 1);
        run.reads(2, "", 0);
        run.due(0, "told", 2, 1);
        // The label's signs are others.
        run.enter("A1");
        run.reads(3, A, 0);
        run.due(2, "count", 2);
    }

    private static void readNoRoom() {
        Due.sentence("3: UnsupportedOperationException (behind a right text, the signs are gone as well):"
                + " more than 8 services or ranges, or there are four editions.");
        // 26 services and 12 ranges with 6 signs more in the first line: 500, as long as a text may be.
        String longest = services(26).replace("A:1:1:1::", "A:123:100:500::") + ranges(12);
        String[] texts = {services(9), ranges(9), services(9) + "*I:00-01\n", longest};
        for (String text : texts) {
            Trial run = new Trial();
            run.reads(Due.NO_ROOM, text, 0);
            run.due(0, "count", 0);
            run.due(0, "count", 1);
            run.due(0, "count", 3);
            run.due(1, "read", 0);
            run.due(0, "told", 1, 1);
            run.due(0, "told", 1, 2);
        }
        Trial four = new Trial();
        for (int i = 1; i <= 4; i++) {
            four.reads(i, A, 0);
        }
        four.reads(Due.NO_ROOM, A, 0);
        four.due(0, "count", 1);
        four.due(Due.NO_ROOM, "read", 0);
        four.reads(Due.NO_ROOM, services(9), 1000);
        four.due(0, "count", 1);
        four.due(4, "count", 0);
        four.due(4, "count", 3);
    }

    private static void readRightTextFirst() {
        Due.sentence("3: behind a right text");
        Trial run = new Trial();
        run.reads(-1 - 9 * 13, services(9) + "x", 0);
        run.reads(-1 - 9 * 13 - 1, ranges(9) + "/0008-0009:1\n", 0);
        for (int i = 1; i <= 4; i++) {
            run.reads(i, "", 0);
        }
        run.reads(-2, "A", 0);
        run.due(0, "count", 1);
    }

    private static void readWrongDay() {
        Due.sentence("3: for a day (0 .. 1000), IllegalArgumentException");
        Trial run = new Trial();
        run.tell(A);
        int[] refused = {-1, 1001, LEAST, MOST};
        for (int day : refused) {
            run.due(Due.BAD_ARGUMENT, "read", day);
            run.due(13, "count", 1);
        }
        run.due(1, "read", 1000);
        run.due(1, "told", 1, 1);
    }

    private static void todayDays() {
        Due.sentence("4: It is this day (0 .. 1000; also an earlier one): the edition that acts");
        Trial run = new Trial();
        run.reads(1, A, 0);
        run.reads(2, A, 1000);
        int[][] days = {{0, 1}, {999, 1}, {1000, 2}, {999, 1}, {1, 1}, {1000, 2}, {1000, 2}, {0, 1}};
        for (int[] d : days) {
            run.due(d[1], "today", d[0]);
            run.due(d[0], "count", 4);
            run.due(d[1], "count", 3);
        }
    }

    private static void todayNoneActs() {
        Due.sentence("4: 0 if none does");
        Trial run = new Trial();
        run.due(0, "today", 0);
        run.due(0, "today", 1000);
        run.due(0, "today", 0);
        run.reads(1, A, 500);
        run.due(0, "today", 499);
        run.due(1, "today", 500);
        run.due(0, "today", 0);
    }

    private static void todayRefused() {
        Due.sentence("4: IllegalArgumentException.");
        Trial run = new Trial();
        run.reads(1, A, 9);
        run.due(1, "today", 9);
        int[] refused = {-1, 1001, LEAST, MOST};
        for (int day : refused) {
            run.due(Due.BAD_ARGUMENT, "today", day);
            run.due(9, "count", 4);
            run.due(1, "count", 3);
        }
    }

    private static void fitsHowMany() {
        Due.sentence("5: How many services of the acting edition fit a pack");
        Trial run = new Trial();
        run.reads(1, "", 0);
        run.due(0, "fits", 1, 1, 1, 0);
        run.reads(2, services(8), 1);
        run.due(0, "fits", 1, 1, 1, 0);
        run.due(2, "today", 1);
        run.due(8, "fits", 1, 1, 1, 0);
        run.due(0, "fits", 2, 1, 1, 0);
        run.due(1, "today", 0);
        run.due(0, "fits", 1, 1, 1, 0);
    }

    private static void fitsPack() {
        Due.sentence("5: (weight 1 .. 2000, size 1 .. 1000, zone 1 .. 9, class 0 .. 9). IllegalArgumentException");
        Trial run = Trial.acting("A:123456789:1000:500:123456789:0+0\n");
        int[][] taken = {{1, 1, 1, 0}, {1, 1, 9, 9}, {1000, 500, 9, 9}, {1, 1, 1, 9}, {1, 1, 9, 0}};
        for (int[] pack : taken) {
            run.due(1, "fits", pack);
        }
        int[][] fitNone = {{2000, 1, 1, 0}, {1, 1000, 1, 0}, {2000, 1000, 9, 9}, {1001, 500, 1, 0}, {1000, 501, 1, 0}};
        for (int[] pack : fitNone) {
            run.due(0, "fits", pack);
        }
        int[][] refused = {{0, 1, 1, 0}, {2001, 1, 1, 0}, {-1, 1, 1, 0}, {LEAST, 1, 1, 0}, {MOST, 1, 1, 0},
            {1, 0, 1, 0}, {1, 1001, 1, 0}, {1, -1, 1, 0}, {1, LEAST, 1, 0}, {1, MOST, 1, 0},
            {1, 1, 0, 0}, {1, 1, 10, 0}, {1, 1, -1, 0}, {1, 1, 33, 0}, {1, 1, LEAST, 0}, {1, 1, MOST, 0},
            {1, 1, 1, -1}, {1, 1, 1, 10}, {1, 1, 1, 33}, {1, 1, 1, LEAST}, {1, 1, 1, MOST}};
        for (int[] pack : refused) {
            run.due(Due.BAD_ARGUMENT, "fits", pack);
        }
    }

    private static void fitsNoneActs() {
        Due.sentence("5: IllegalStateException.");
        Trial run = new Trial();
        run.due(Due.BAD_STATE, "fits", 1, 1, 1, 0);
        run.due(Due.BAD_STATE, "fits", 2000, 1000, 9, 9);
        run.due(Due.BAD_ARGUMENT, "fits", 2001, 1, 1, 0);
        run.reads(1, A, 2);
        run.due(0, "today", 1);
        run.due(Due.BAD_STATE, "fits", 1, 1, 1, 0);
        run.due(1, "today", 2);
        run.due(1, "fits", 1, 1, 1, 0);
    }

    private static void atByPrice() {
        Due.sentence("6: The letter of the i-th service that fitted at the latest fits(), by price");
        Trial run = Trial.acting("A:1:100:1::3+0\nB:1:100:1::2+1\nC:1:100:1::1+3\nD:2:100:1::0+0\nE:1:10:1::0+0\n");
        run.due(4, "fits", 1, 1, 1, 0);
        run.ranked("EABC");
        run.due(4, "fits", 10, 1, 1, 0);
        run.ranked("EABC");
        run.due(3, "fits", 11, 1, 1, 0);
        run.ranked("ABC");
        run.due(1, "fits", 1, 1, 2, 0);
        run.ranked("D");
        run.due(0, "fits", 1, 1, 3, 0);
        run.ranked("");
        Trial downward = Trial.acting("A:1:1:1::999+99\nB:1:1:1::999+98\nC:1:1:1::10+0\nD:1:1:1::9+0\n");
        downward.due(4, "fits", 1, 1, 1, 0);
        downward.ranked("DCBA");
    }

    private static void atEqualPrices() {
        Due.sentence("6: of equal ones as told in the text");
        Trial run = Trial.acting("Z:1:100:1::2+2\nA:1:100:1::4+0\nM:1:100:1::0+4\nC:1:100:1::4+0\nB:1:100:1::3+0\n");
        run.due(5, "fits", 10, 1, 1, 0);
        run.ranked("BZAMC");
        run.due(5, "fits", 11, 1, 1, 0);
        run.ranked("BACZM");
        Trial all = Trial.acting("H:1:1:1::0+0\nG:1:1:1::0+0\nF:1:1:1::0+0\nE:1:1:1::0+0\nD:1:1:1::0+0\nC:1:1:1::0+0\n"
                + "B:1:1:1::0+0\nA:1:1:1::0+0\n");
        all.due(8, "fits", 1, 1, 1, 0);
        all.ranked("HGFEDCBA");
    }

    private static void atNotSoMany() {
        Due.sentence("6: -1 if there are not so many");
        Trial run = Trial.acting(services(8));
        run.due(8, "fits", 1, 1, 1, 0);
        run.due((int) 'A', "at", 0);
        run.due((int) 'H', "at", 7);
        int[] none = {8, 9, 26, -1, LEAST, MOST};
        for (int i : none) {
            run.due(-1, "at", i);
        }
        run.due(0, "fits", 2, 1, 1, 0);
        run.due(-1, "at", 0);
        run.due(-1, "at", 7);
        run.due(-1, "at", -1);
    }

    private static void atNotAsked() {
        Due.sentence("6: (also as long as fits() was not asked");
        Trial run = new Trial();
        run.due(-1, "at", 0);
        run.reads(1, A, 0);
        run.due(-1, "at", 0);
        run.due(0, "price", 'A', 1);
        run.due(-1, "at", 0);
    }

    private static void atBehindReadOrToday() {
        Due.sentence("6: and behind read() that made an edition, or today())");
        Trial run = Trial.acting(A);
        run.due(1, "fits", 1, 1, 1, 0);
        run.reads(-1, "?", 0);
        run.ranked("A");
        run.reads(Due.NO_ROOM, services(9), 0);
        run.ranked("A");
        run.due(Due.BAD_ARGUMENT, "read", 1001);
        run.ranked("A");
        run.due(Due.BAD_ARGUMENT, "today", 1001);
        run.ranked("A");
        // The acting edition stays the same, and yet at() tells no more.
        run.reads(2, A, 1000);
        run.ranked("");
        run.due(1, "fits", 1, 1, 1, 0);
        run.ranked("A");
        run.due(1, "today", 0);
        run.ranked("");
    }

    private static void priceWeights() {
        Due.sentence("7: The price of a service of the acting edition for a weight (1 .. 2000; whether it fits or not).");
        Trial run = Trial.acting("A:1:1:1::5+2\n");
        run.due(7, "price", 'A', 1);
        run.due(7, "price", 'A', 2);
        run.due(405, "price", 'A', 2000);
        int[] refused = {0, -1, 2001, LEAST, MOST};
        for (int weight : refused) {
            run.due(Due.BAD_ARGUMENT, "price", 'A', weight);
        }
        run.reads(2, "A:1:1:1::6+2\n", 1);
        run.due(7, "price", 'A', 1);
        run.due(2, "today", 1);
        run.due(8, "price", 'A', 1);
    }

    private static void priceNoLetter() {
        Due.sentence("7: NoSuchElementException: no such letter there");
        Trial run = Trial.acting(TEXT);
        // Told by another edition, which does not act.
        run.reads(2, "C" + A.substring(1), 1000);
        for (int service : NO_LETTERS_OF_TEXT) {
            run.due(Due.NO_ELEMENT, "price", service, 1);
            run.due(Due.NO_ELEMENT, "price", service, 0);
        }
        Trial empty = Trial.acting("");
        empty.due(Due.NO_ELEMENT, "price", 'A', 1);
    }

    private static void priceStateFirst() {
        Due.sentence("7: (IllegalStateException is asked first)");
        Trial run = new Trial();
        run.due(Due.BAD_STATE, "price", 'A', 1);
        run.due(Due.BAD_STATE, "price", 'A', 0);
        run.due(Due.BAD_STATE, "price", 0, 0);
        run.reads(1, A, 1);
        run.due(Due.BAD_STATE, "price", 'A', 1);
        run.due(Due.BAD_STATE, "price", 'B', 1);
        run.due(Due.BAD_STATE, "price", 'A', 2001);
    }

    private static void zoneCodes() {
        Due.sentence("8: The zone of a postal code (0 .. 9999) by the acting edition");
        Trial run = Trial.acting("/0000-0000:4\n/0001-9998:5\n/9999-9999:6\n");
        int[][] zones = {{0, 4}, {1, 5}, {9998, 5}, {9999, 6}};
        for (int[] z : zones) {
            run.due(z[1], "zone", z[0]);
        }
        int[] refused = {-1, 10000, LEAST, MOST};
        Trial none = new Trial();
        for (int code : refused) {
            run.due(Due.BAD_ARGUMENT, "zone", code);
            none.due(Due.BAD_ARGUMENT, "zone", code);
        }
        none.due(Due.BAD_STATE, "zone", 0);
        none.due(Due.BAD_STATE, "zone", 9999);
        run.reads(2, "/0000-0000:9\n", 1);
        run.due(4, "zone", 0);
        run.due(2, "today", 1);
        run.due(9, "zone", 0);
        run.due(0, "zone", 1);
    }

    private static void zoneNoRange() {
        Due.sentence("8: 0 if it is in no range");
        Trial run = Trial.acting("/0001-0002:1\n/0004-0004:2\n/0006-9998:3\n");
        int[][] zones = {{0, 0}, {1, 1}, {2, 1}, {3, 0}, {4, 2}, {5, 0}, {6, 3}, {9998, 3}, {9999, 0}};
        for (int[] z : zones) {
            run.due(z[1], "zone", z[0]);
        }
        Trial empty = Trial.acting("");
        empty.due(0, "zone", 0);
        empty.due(0, "zone", 9999);
        Trial eight = Trial.acting(ranges(8));
        eight.due(1, "zone", 7);
        eight.due(0, "zone", 8);
    }

    private static void hoursOfDay() {
        Due.sentence("9: Whether a service picks up in an hour (0 .. 23).");
        Trial run = Trial.acting(services(4) + "*A:08-17\n*B:00-24\n*C:23-24\n*D:00-01\n");
        for (int hour = 0; hour <= 23; hour++) {
            run.due(hour >= 8 && hour < 17, "hours", 'A', hour);
            run.due(true, "hours", 'B', hour);
            run.due(hour == 23, "hours", 'C', hour);
            run.due(hour == 0, "hours", 'D', hour);
        }
        int[] refused = {-1, 24, 25, LEAST, MOST};
        for (int hour : refused) {
            run.due(Due.BAD_ARGUMENT, "hours", 'B', hour);
        }
    }

    private static void hoursNotTold() {
        Due.sentence("9: IllegalStateException: also if its hours are not told.");
        Trial run = Trial.acting(services(2) + "*A:08-17\n");
        run.due(true, "hours", 'A', 8);
        run.due(Due.BAD_STATE, "hours", 'B', 8);
        run.due(Due.BAD_STATE, "hours", 'B', 0);
        run.due(Due.BAD_STATE, "hours", 'B', 23);
        // Told by the earlier edition only.
        run.reads(2, A, 0);
        run.due(Due.BAD_STATE, "hours", 'A', 8);
    }

    private static void hoursOrder() {
        Due.sentence("9: (No edition acts, no such letter, hour, not told: in this order.)");
        Trial run = new Trial();
        run.reads(1, A, 1);
        run.due(Due.BAD_STATE, "hours", 'A', 0);
        run.due(Due.BAD_STATE, "hours", 'B', 0);
        run.due(Due.BAD_STATE, "hours", 'A', 24);
        run.due(1, "today", 1);
        run.due(Due.NO_ELEMENT, "hours", 'B', 24);
        run.due(Due.BAD_ARGUMENT, "hours", 'A', 24);
        run.due(Due.BAD_ARGUMENT, "hours", 'A', -1);
        run.due(Due.BAD_STATE, "hours", 'A', 23);
        for (int service : new int[] {'B', '@', 'a', 'A' + 256, 0, -1, LEAST, MOST}) {
            run.due(Due.NO_ELEMENT, "hours", service, 0);
        }
    }

    private static void labelLength() {
        Due.sentence("10: A label of a service for a code is printed: its length");
        Trial run = Trial.acting(TEXT);
        run.due(8, "label", 'A', 150);
        run.printed("A1-0150L");
        run.due(8, "label", 'A', 100);
        run.due(8, "label", 'A', 199);
        run.due(8, "label", 'A', 200);
        run.due(8, "label", 'A', 4000);
        // 65 + 2 * 51 + 3 * 45 + 4 * 52 + (5 + 6 + 7) * 48 = 1374 = 52 * 26 + 22
        run.printed("A3-4000W");
        Trial ends = Trial.acting("A:9:1:1::0+0\n/0000-9999:9\n");
        ends.due(8, "label", 'A', 0);
        // 65 + 2 * 57 + 3 * 45 + 22 * 48 = 1370 = 52 * 26 + 18
        ends.printed("A9-0000S");
        ends.due(8, "label", 'A', 9999);
        // 65 + 2 * 57 + 3 * 45 + 22 * 57 = 1568 = 60 * 26 + 8
        ends.printed("A9-9999I");
    }

    private static void labelNothing() {
        Due.sentence("10: 0, and nothing is printed, if the code has no zone of this service.");
        Trial run = Trial.acting(TEXT);
        run.due(0, "label", 'A', 99);
        run.due(0, "count", 5);
        run.due(Due.BAD_ARGUMENT, "out", 0);
        run.due(8, "label", 'A', 150);
        int[][] none = {{'A', 99}, {'A', 4001}, {'A', 0}, {'A', 9999}, {'B', 200}, {'B', 4000}};
        for (int[] n : none) {
            run.due(0, "label", n);
            run.printed("A1-0150L");
        }
        Trial noRanges = Trial.acting(A);
        noRanges.due(0, "label", 'A', 0);
    }

    private static void labelOrder() {
        Due.sentence("10: (No edition acts, no such letter, code: in this order.)");
        Trial run = new Trial();
        run.reads(1, TEXT, 1);
        run.due(Due.BAD_STATE, "label", 'A', 150);
        run.due(Due.BAD_STATE, "label", 'C', 150);
        run.due(Due.BAD_STATE, "label", 'C', 10000);
        run.due(1, "today", 1);
        for (int service : NO_LETTERS_OF_TEXT) {
            run.due(Due.NO_ELEMENT, "label", service, 10000);
            run.due(Due.NO_ELEMENT, "label", service, 150);
        }
        int[] refused = {-1, 10000, LEAST, MOST};
        for (int code : refused) {
            run.due(Due.BAD_ARGUMENT, "label", 'A', code);
        }
    }

    private static void printLine() {
        Due.sentence("11: A service of an edition is printed as its line, without the line's end: its length.");
        String[] lines = {"A:1:1:1::0+0", "B:123456789:1000:500:123456789:999+99", "C:9:10:10:1:10+10",
            "D:19:100:100:9:100+9", "E:2:999:499::99+1", "F:3:101:409:28:909+90"};
        Trial run = new Trial();
        // An edition need not act to be printed.
        run.reads(1, String.join("\n", lines) + "\n*A:08-17\n/0000-0000:1\n", 1000);
        run.reads(2, "A:2:2:2:2:2+2\n", 1000);
        for (String line : lines) {
            run.due(line.length(), "print", 1, line.charAt(0));
            run.printed(line);
        }
        run.due(13, "print", 2, 'A');
        run.printed("A:2:2:2:2:2+2");
    }

    private static void printRefused() {
        Due.sentence("11: NoSuchElementException: no such edition, or no such letter there.");
        Trial run = Trial.acting(TEXT);
        run.reads(2, "C" + A.substring(1), 0);
        int[] noEditions = {0, 3, 4, 5, -1, LEAST, MOST};
        for (int edition : noEditions) {
            run.due(Due.NO_ELEMENT, "print", edition, 'A');
        }
        for (int service : NO_LETTERS_OF_TEXT) {
            run.due(Due.NO_ELEMENT, "print", 1, service);
        }
        run.due(Due.NO_ELEMENT, "print", 2, 'A');
        run.due(12, "print", 2, 'C');
        Trial four = new Trial();
        for (int i = 1; i <= 4; i++) {
            four.reads(i, A, 0);
        }
        four.due(12, "print", 4, 'A');
        four.due(Due.NO_ELEMENT, "print", 5, 'A');
        four.due(Due.NO_ELEMENT, "print", 0, 'A');
    }

    private static void outSigns() {
        Due.sentence("12: Sign i of what was printed last.");
        Trial run = Trial.acting(TEXT);
        run.due(19, "print", 1, 'A');
        run.printed("A:123:100:60:17:5+2");
        run.due(8, "label", 'B', 100);
        // 66 + 2 * 49 + 3 * 45 + 4 * 48 + 5 * 49 + (6 + 7) * 48 = 1360 = 52 * 26 + 8
        run.printed("B1-0100I");
        run.due(17, "print", 1, 'B');
        run.printed("B:1:1000:500::0+4");
        // Other calls leave it, such as fits(), today() and a new edition.
        run.due(2, "fits", 1, 1, 1, 0);
        run.due(1, "today", 5);
        run.reads(2, "", 0);
        run.printed("B:1:1000:500::0+4");
    }

    private static void outNone() {
        Due.sentence("12: IllegalArgumentException: there is none.");
        Trial run = new Trial();
        int[] none = {0, 1, -1, LEAST, MOST};
        for (int i : none) {
            run.due(Due.BAD_ARGUMENT, "out", i);
        }
        run.reads(1, "B:123456789:1000:500:123456789:999+99\n/0000-0000:1\n", 0);
        run.due(37, "print", 1, 'B');
        run.due((int) '9', "out", 36);
        run.due(Due.BAD_ARGUMENT, "out", 37);
        run.due(Due.BAD_ARGUMENT, "out", 38);
        run.due(8, "label", 'B', 0);
        int[] noMore = {8, 9, 36, 37, -1, LEAST, MOST};
        for (int i : noMore) {
            run.due(Due.BAD_ARGUMENT, "out", i);
        }
        run.due((int) '0', "out", 6);
    }

    private static void numberTaken() {
        Due.sentence("13: A sign of a label to be checked (32 .. 126");
        Trial run = Trial.acting("");
        int taken = 0;
        for (int c = -2; c <= 260; c++) {
            boolean may = c >= 32 && c <= 126;
            if (taken == 20) {
                run.due(-1, "track");
                taken = 0;
            }
            run.due(may ? Trial.GOES : Due.BAD_ARGUMENT, "number", c);
            taken += may ? 1 : 0;
        }
        int[] refused = {LEAST, LEAST + 65, -65, 256 + 65, 65536 + 65, MOST};
        for (int c : refused) {
            run.due(Due.BAD_ARGUMENT, "number", c);
        }
        run.due(taken, "count", 2);
    }

    private static void numberAtMost() {
        Due.sentence("13: at most 20)");
        Trial run = Trial.acting(TEXT);
        run.enter("A1-0150L12345678901");
        run.due(19, "count", 2);
        run.due(Trial.GOES, "number", '2');
        run.due(20, "count", 2);
        run.due(Due.NO_ROOM, "number", '3');
        run.due(20, "count", 2);
        run.due(-1, "track");
        run.due(Trial.GOES, "number", 'A');
        run.due(1, "count", 2);
        run.due(0, "count", 1);
    }

    private static void trackRight() {
        Due.sentence("14: Whether the label's signs are a label by the acting edition: 1");
        Trial run = Trial.acting(TEXT);
        run.tracks(1, "A1-0150L");
        run.tracks(1, "A3-4000W");
        run.tracks(1, "B1-0100I");
        run.reads(2, "A:2:1:1::0+0\n/0150-0150:2\n", 1);
        run.tracks(1, "A1-0150L");
        run.due(2, "today", 1);
        run.tracks(-4, "A1-0150L");
        // One more times 2 than A1-0150L: two letters on.
        run.tracks(1, "A2-0150N");
    }

    private static void trackNotEight() {
        Due.sentence("14: -1 not eight signs");
        Trial run = Trial.acting(TEXT);
        run.due(-1, "track");
        run.tracks(-1, "A");
        run.tracks(-1, "A1-0150");
        run.tracks(-1, "A1-0150LL");
        run.tracks(-1, "A1-0150L ");
        run.tracks(-1, "A1-0150L            ");
        run.tracks(-1, "~~~~~~~");
        run.tracks(-1, "~~~~~~~~~");
        run.tracks(-2, "~~~~~~~~");
    }

    private static void trackForm() {
        Due.sentence("14: -2 the form (a letter, a digit 1 .. 9, '-', four digits, a letter)");
        String[] formless = {"@1-0150L", "[1-0150L", "a1-0150L", "11-0150L", " 1-0150L",
            "A0-0150L", "A:-0150L", "A/-0150L", "AA-0150L",
            "A1,0150L", "A1.0150L", "A1+0150L", "A110150L",
            "A1-/150L", "A1-:150L", "A1-0/50L", "A1-0:50L", "A1-01/0L", "A1-01:0L", "A1-015/L", "A1-015:L",
            "A1-0150@", "A1-0150[", "A1-0150l", "A1-01501", "A1-0150 "};
        Trial run = Trial.acting(TEXT);
        for (String label : formless) {
            run.tracks(-2, label);
        }
        // At the form's edges, but in it.
        run.tracks(-3, "Z9-9999Z");
        run.tracks(-4, "A9-0000A");
        run.tracks(-4, "A1-9999Z");
    }

    private static void trackNoService() {
        Due.sentence("14: -3 no such service");
        Trial run = Trial.acting(TEXT);
        run.reads(2, "C:1:1:1::0+0\n", 1000);
        run.tracks(-3, "C1-0150N");
        run.tracks(-3, "Z1-0150K");
        run.tracks(-3, "C9-9999A");
        Trial empty = Trial.acting("");
        empty.tracks(-3, "A1-0150L");
    }

    private static void trackZone() {
        Due.sentence("14: -4 not the code's zone, or not one of the service");
        Trial run = Trial.acting(TEXT);
        // All of these end with their own check letter.
        // The code's zone is 1, and 2 and 3 are zones of the service too.
        run.tracks(-4, "A2-0150N");
        run.tracks(-4, "A3-0150P");
        // The code's zone is 3, and the service has not got it.
        run.tracks(-4, "B3-0300W");
        run.tracks(-4, "B1-0300S");
        // The code has no zone.
        run.tracks(-4, "A1-0099P");
        run.tracks(-4, "A1-4001Z");
        // At the ranges' edges.
        run.tracks(-4, "A1-0200M");
        run.tracks(-4, "A3-0199Y");
    }

    private static void trackCheckLetter() {
        Due.sentence("14: -5 the check letter");
        Trial run = Trial.acting(TEXT);
        for (char letter = 'A'; letter <= 'Z'; letter++) {
            run.tracks(letter == 'L' ? 1 : -5, "A1-0150" + letter);
        }
    }

    private static void trackFirstThing() {
        Due.sentence("14: the first thing that is wrong");
        Trial run = Trial.acting(TEXT);
        run.tracks(-1, "c9+999");
        run.tracks(-2, "C9+9999A");
        run.tracks(-3, "C9-9999A");
        run.tracks(-4, "A9-9999A");
        run.tracks(-5, "A1-0150A");
        run.tracks(1, "A1-0150L");
    }

    private static void trackSignsGone() {
        Due.sentence("14: The signs are gone");
        Trial run = Trial.acting(TEXT);
        String[] labels = {"A1-0150L", "A", "A1+0150L", "C1-0150L", "A2-0150L", "A1-0150A"};
        int[] due = {1, -1, -2, -3, -4, -5};
        for (int i = 0; i < labels.length; i++) {
            run.tracks(due[i], labels[i]);
            run.due(0, "count", 2);
        }
        run.tell("A:");
        run.tracks(1, "A1-0150L");
        run.due(2, "count", 1);
    }

    private static void trackNoneActs() {
        Due.sentence("14: (not if no edition acts)");
        Trial run = new Trial();
        run.due(Due.BAD_STATE, "track");
        run.reads(1, TEXT, 5);
        run.enter("A1-0150L");
        run.due(Due.BAD_STATE, "track");
        run.due(8, "count", 2);
        run.due(Due.BAD_STATE, "track");
        run.due(1, "today", 5);
        run.due(1, "track");
        run.due(0, "count", 2);
    }

    private static void toldWhat() {
        Due.sentence("15: Of an edition 0 its day, 1 services, 2 ranges, 3 services with hours.");
        Trial run = new Trial();
        run.reads(1, "", 1000);
        run.reads(2, services(8) + ranges(1) + "*H:00-01\n*A:00-24\n", 0);
        run.reads(3, ranges(8), 999);
        run.reads(4, A + "*A:23-24\n", 1);
        int[][] told = {{1000, 0, 0, 0}, {0, 8, 1, 2}, {999, 0, 8, 0}, {1, 1, 0, 1}};
        for (int edition = 1; edition <= 4; edition++) {
            for (int what = 0; what <= 3; what++) {
                run.due(told[edition - 1][what], "told", edition, what);
            }
        }
    }

    private static void toldRefused() {
        Due.sentence("15: NoSuchElementException, IllegalArgumentException.");
        Trial run = Trial.acting(A);
        int[] noEditions = {0, 2, 4, 5, -1, LEAST, MOST};
        for (int edition : noEditions) {
            run.due(Due.NO_ELEMENT, "told", edition, 0);
            run.due(Due.NO_ELEMENT, "told", edition, 4);
        }
        int[] nothing = {-1, 4, 5, LEAST, MOST};
        for (int what : nothing) {
            run.due(Due.BAD_ARGUMENT, "told", 1, what);
        }
        for (int i = 2; i <= 4; i++) {
            run.reads(i, "", 0);
        }
        run.due(0, "told", 4, 0);
        run.due(Due.NO_ELEMENT, "told", 5, 0);
    }

    private static void countWhat() {
        Due.sentence("16: 0 editions, 1 signs of the text, 2 signs of the label, 3 the edition that acts (0 none), 4 today,"
                + " 5 signs that were printed last");
        Trial run = Trial.acting(TEXT);
        run.reads(2, A, 1000);
        run.reads(3, A, 7);
        run.due(3, "today", 8);
        run.due(17, "print", 1, 'B');
        run.tell("A:1:1");
        run.enter("A1-0");
        int[] due = {3, 5, 4, 3, 8, 17};
        for (int what = 0; what <= 5; what++) {
            run.due(due[what], "count", what);
        }
        Trial none = new Trial();
        none.reads(1, A, 1);
        none.due(0, "count", 3);
        none.due(1, "today", 1);
        none.due(1, "count", 3);
        none.due(0, "today", 0);
        none.due(0, "count", 3);
    }

    private static void countOther() {
        Due.sentence("16: -1 for another what");
        Trial run = Trial.acting(TEXT);
        int[] other = {-1, 6, 7, 256, -256, LEAST, MOST};
        for (int what : other) {
            run.due(-1, "count", what);
        }
    }

    private static void refusedCallsChangeNothing() {
        Due.sentence("a refused call changes nothing");
        Trial run = Trial.acting("A:123:100:60:17:5+2\n/0100-0199:1\n");
        run.due(1, "today", 3);
        run.due(1, "fits", 1, 1, 1, 0);
        run.due(8, "label", 'A', 150);
        run.tell("A:");
        run.enter("A1");
        String before = run.state();
        int[] one = {1001};
        Object[][] refused = {{"sign", new int[] {9}}, {"number", new int[] {10}}, {"read", one}, {"today", one},
            {"fits", new int[] {0, 1, 1, 0}}, {"price", new int[] {'B', 1}}, {"price", new int[] {'A', 0}},
            {"zone", new int[] {10000}}, {"hours", new int[] {'A', 1}}, {"label", new int[] {'B', 150}},
            {"label", new int[] {'A', 10000}}, {"print", new int[] {2, 'A'}}, {"print", new int[] {1, 'B'}},
            {"out", new int[] {8}}, {"told", new int[] {2, 0}}, {"told", new int[] {1, 4}}};
        String[] due = {Due.BAD_ARGUMENT, Due.BAD_ARGUMENT, Due.BAD_ARGUMENT, Due.BAD_ARGUMENT,
            Due.BAD_ARGUMENT, Due.NO_ELEMENT, Due.BAD_ARGUMENT,
            Due.BAD_ARGUMENT, Due.BAD_STATE, Due.NO_ELEMENT,
            Due.BAD_ARGUMENT, Due.NO_ELEMENT, Due.NO_ELEMENT,
            Due.BAD_ARGUMENT, Due.NO_ELEMENT, Due.BAD_ARGUMENT};
        for (int i = 0; i < refused.length; i++) {
            run.due(due[i], (String) refused[i][0], (int[]) refused[i][1]);
            run.stateIs(before);
        }
    }
}
