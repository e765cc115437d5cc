/** The document's Terms, sentence by sentence: each that names a boundary case has a test of its own. */
public final class TermsTest {
    private static final String A = "A:1:1:1::0+0\n";
    private static final String B = "B:1:1:1::0+0\n";
    // One of each kind of line, with each number as long as it may be.
    private static final String ALL_KINDS = "K:123456789:1000:500:123456789:999+99\n/0100-0199:1\n*K:08-17\n";
    private static final String[] TOO_GREAT_FOR_INT = {"4294967297", "2147483648", "18446744073709551617",
        "99999999999999999999999999999999999999999999999999"};

    public static void main(String[] args) {
        lines();
        serviceLetters();
        zones();
        greatestWeights();
        greatestSizes();
        classes();
        bases();
        steps();
        rangeCodes();
        rangeZones();
        rangesGoUpward();
        hoursOfServicesToldBefore();
        hoursOnceEach();
        firstHours();
        endHours();
        numbersAsFarAsDigitsGo();
        numbersWithToldCount();
        zerosInFront();
        numbersWrongAtFirstSign();
        lettersWrongAtTheirPlace();
        wrongWhereTheTextCantGoOn();
        wrongAtItsLength();
        atMostFourEditions();
        daysOfEditions();
        atMostEightServicesAndRanges();
        dayZeroAtFirst();
        greatestDayNotBehindToday();
        lastReadOfEqualDays();
        noneActsPerhaps();
        begunTens();
        zoneAndClassAmongItsOwn();
        notAboveItsGreatest();
        partsOfALabel();
        checkLetterModulo26();
        firstRefusalThatHolds();
        callsOfAnObject();
        Due.end();
    }

    private static void right(String text) {
        new Trial().reads(1, text, 0);
    }

    private static void wrong(String text, int place) {
        new Trial().reads(-1 - place, text, 0);
    }

    private static String zonesLine(String zones) {
        return "A:" + zones + ":1:1::0+0\n";
    }

    private static String weightLine(String weight) {
        return "A:1:" + weight + ":1::0+0\n";
    }

    private static String sizeLine(String size) {
        return "A:1:1:" + size + "::0+0\n";
    }

    private static String classesLine(String classes) {
        return "A:1:1:1:" + classes + ":0+0\n";
    }

    private static String baseLine(String base) {
        return "A:1:1:1::" + base + "+0\n";
    }

    private static String stepLine(String step) {
        return "A:1:1:1::0+" + step + "\n";
    }

    private static String services(int howMany) {
        StringBuilder text = new StringBuilder();
        for (int i = 0; i < howMany; i++) {
            text.append((char) ('A' + i)).append(A.substring(1));
        }
        return text.toString();
    }

    private static String ranges(int howMany) {
        StringBuilder text = new StringBuilder();
        for (int i = 0; i < howMany; i++) {
            text.append(String.format("/%04d-%04d:1\n", i, i));
        }
        return text.toString();
    }

    private static void lines() {
        Due.sentence("A TEXT is lines, none or more, each of one of these forms, and a line's end (10)");
        right("");
        right(A);
        right("/0000-0000:1\n");
        right(ALL_KINDS);
        right(A + "*A:00-01\n/0000-0000:1\n" + B + "/0001-0001:1\n*B:00-01\n");
        wrong("\n", 0);
        wrong(A + "\n", 13);
        wrong(A + "\n" + B, 13);
        wrong("A:1:1:1::0+0", 12);
        wrong("A:1:1:1::0+0 \n", 12);
        wrong("A:1:1:1::0+0" + B, 12);
        wrong("/0000-0000:1", 12);
        wrong("/0000-0000:1/0001-0001:1\n", 12);
        wrong(A + "*A:00-01", 21);
        wrong(A + "*A:00-01 \n", 21);
        for (char c : " !#:+-09~".toCharArray()) {
            wrong(c + A, 0);
            wrong(A + c, 13);
        }
    }

    private static void serviceLetters() {
        Due.sentence("a SERVICE: its letter (A .. Z, none twice in a text)");
        for (char letter = 'A'; letter <= 'Z'; letter++) {
            right(letter + A.substring(1));
        }
        for (char letter : "@[az`{0".toCharArray()) {
            wrong(letter + A.substring(1), 0);
        }
        wrong(A + A, 13);
        wrong(A + B + A, 26);
        wrong(B + A + A, 26);
        wrong(A + "/0000-0000:1\n*A:00-01\n" + A, 35);
        wrong(services(8) + "H:1:1:1::0+0\n", 8 * 13);
        Trial twoTexts = Trial.acting(A);
        twoTexts.reads(2, A, 0);
    }

    private static void zones() {
        Due.sentence("zones (digits 1 .. 9, upward, one at least)");
        for (char digit = '1'; digit <= '9'; digit++) {
            right(zonesLine("" + digit));
            wrong(zonesLine("" + digit + digit), 3);
            wrong(zonesLine(digit + "0"), 3);
        }
        right(zonesLine("19"));
        right(zonesLine("123456789"));
        wrong(zonesLine(""), 2);
        wrong(zonesLine("0"), 2);
        wrong(zonesLine("01"), 2);
        wrong(zonesLine("21"), 3);
        wrong(zonesLine("98"), 3);
        wrong(zonesLine("1243"), 5);
        wrong(zonesLine("1234567899"), 11);
        wrong(zonesLine("/"), 2);
        wrong(zonesLine("1;"), 3);
        wrong("A:1::1:1::0+0\n", 4);
    }

    private static void greatestWeights() {
        Due.sentence("a greatest weight 1 .. 1000");
        for (String weight : new String[] {"1", "9", "10", "99", "100", "999", "1000"}) {
            right(weightLine(weight));
        }
        for (String weight : new String[] {"0", "1001", "1010", "1100", "2000", "9999", "10000"}) {
            wrong(weightLine(weight), 4);
        }
        wrong(weightLine(""), 4);
        wrong(weightLine("-1"), 4);
    }

    private static void greatestSizes() {
        Due.sentence("a greatest size 1 .. 500");
        for (String size : new String[] {"1", "9", "10", "99", "100", "499", "500"}) {
            right(sizeLine(size));
        }
        for (String size : new String[] {"0", "501", "510", "600", "999", "1000", "5000"}) {
            wrong(sizeLine(size), 6);
        }
        wrong(sizeLine(""), 6);
        wrong(sizeLine("-1"), 6);
    }

    private static void classes() {
        Due.sentence("dangerous classes (digits 1 .. 9, upward, perhaps none)");
        right(classesLine(""));
        for (char digit = '1'; digit <= '9'; digit++) {
            right(classesLine("" + digit));
            wrong(classesLine("" + digit + digit), 9);
            wrong(classesLine(digit + "0"), 9);
        }
        right(classesLine("19"));
        right(classesLine("123456789"));
        wrong(classesLine("0"), 8);
        wrong(classesLine("01"), 8);
        wrong(classesLine("21"), 9);
        wrong(classesLine("98"), 9);
        wrong(classesLine("1243"), 11);
        wrong(classesLine("1234567899"), 17);
        wrong(classesLine(" "), 8);
    }

    private static void bases() {
        Due.sentence("a base 0 .. 999");
        for (String base : new String[] {"0", "1", "9", "10", "99", "100", "999"}) {
            right(baseLine(base));
        }
        for (String base : new String[] {"1000", "1001", "9999", "10000"}) {
            wrong(baseLine(base), 9);
        }
        wrong(baseLine(""), 9);
        wrong(baseLine("-1"), 9);
    }

    private static void steps() {
        Due.sentence("a step 0 .. 99");
        for (String step : new String[] {"0", "1", "9", "10", "99"}) {
            right(stepLine(step));
        }
        for (String step : new String[] {"100", "101", "999", "1000"}) {
            wrong(stepLine(step), 11);
        }
        wrong(stepLine(""), 11);
        wrong(stepLine("-1"), 11);
    }

    private static void rangeCodes() {
        Due.sentence("a RANGE of postal codes: '/', four digits, '-', four digits (not less)");
        right("/0000-0000:1\n");
        right("/0000-9999:1\n");
        right("/9999-9999:1\n");
        right("/0999-1000:1\n");
        wrong("/0001-0000:1\n", 6);
        wrong("/9999-9998:1\n", 6);
        wrong("/1000-0999:1\n", 6);
        wrong("/9999-0000:1\n", 6);
        wrong("0000-0000:1\n", 0);
        wrong("/-0000:1\n", 1);
        wrong("/000-0000:1\n", 4);
        wrong("/00000-0000:1\n", 5);
        wrong("/0000+0000:1\n", 5);
        wrong("/0000-:1\n", 6);
        wrong("/0000-000:1\n", 9);
        wrong("/0000-00000:1\n", 10);
        wrong("/000:-0000:1\n", 4);
        wrong("/000/-0000:1\n", 4);
    }

    private static void rangeZones() {
        Due.sentence("a zone (a digit 1 .. 9)");
        for (int zone = 1; zone <= 9; zone++) {
            Trial run = Trial.acting("/0000-0000:" + zone + "\n");
            run.due(zone, "zone", 0);
        }
        wrong("/0000-0000:0\n", 11);
        wrong("/0000-0000:\n", 11);
        wrong("/0000-0000::\n", 11);
        wrong("/0000-0000:A\n", 11);
        wrong("/0000-0000:10\n", 12);
        wrong("/0000-0000:12\n", 12);
    }

    private static void rangesGoUpward() {
        Due.sentence("each range begins above the end of the one before");
        right("/0000-0000:1\n/0001-0001:1\n");
        right("/0000-9998:1\n/9999-9999:1\n");
        right("/0000-0004:1\n/9000-9999:1\n");
        wrong("/0000-0000:1\n/0000-0000:1\n", 14);
        wrong("/0005-0007:1\n/0007-0009:1\n", 14);
        wrong("/0005-0007:1\n/0006-0009:1\n", 14);
        wrong("/0005-0007:1\n/0000-0004:1\n", 14);
        wrong("/0000-9999:1\n/9999-9999:1\n", 14);
        wrong("/0005-0007:1\n" + A + "*A:00-01\n/0007-0009:1\n", 36);
        wrong("/0005-0007:1\n/0008-0008:1\n/0008-0008:1\n", 27);
        wrong("/0005-0009:1\n/0020-0021:1\n/0010-0011:1\n", 27);
        wrong(ranges(9) + "/0008-0008:1\n", 9 * 13 + 1);
        Trial twoTexts = Trial.acting("/0000-9999:1\n");
        twoTexts.reads(2, "/0000-0000:1\n", 0);
    }

    private static void hoursOfServicesToldBefore() {
        Due.sentence("HOURS of a service that was told before in this text");
        right(A + "*A:08-17\n");
        right(A + B + "/0000-0000:1\n*A:08-17\n");
        wrong("*A:08-17\n", 1);
        wrong("*A:08-17\n" + A, 1);
        wrong(A + "*B:08-17\n" + B, 14);
        wrong(A + "*a:08-17\n", 14);
        wrong(A + "*:08-17\n", 14);
        wrong(A + "**:08-17\n", 14);
        Trial earlierText = Trial.acting(A);
        earlierText.reads(-2, "*A:08-17\n", 0);
        Trial wrongText = new Trial();
        wrongText.reads(-14, A + "x", 0);
        wrongText.reads(-2, "*A:08-17\n", 0);
        Trial textWithoutRoom = new Trial();
        textWithoutRoom.reads(Due.NO_ROOM, services(9), 0);
        textWithoutRoom.reads(-2, "*A:08-17\n", 0);
    }

    private static void hoursOnceEach() {
        Due.sentence("once each");
        right(A + B + "*A:08-17\n*B:08-17\n");
        wrong(A + "*A:08-17\n*A:08-17\n", 23);
        wrong(A + "*A:00-01\n*A:18-19\n", 23);
        wrong(A + B + "*A:08-17\n*B:08-17\n*A:18-19\n", 45);
        Trial twoTexts = Trial.acting(A + "*A:08-17\n");
        twoTexts.reads(2, A + "*A:08-17\n", 0);
    }

    private static void firstHours() {
        Due.sentence("two digits 00 .. 23");
        for (int hour = 0; hour <= 23; hour++) {
            right(A + String.format("*A:%02d-24\n", hour));
        }
        wrong(A + "*A:24-24\n", 16);
        wrong(A + "*A:24-25\n", 16);
        wrong(A + "*A:30-24\n", 16);
        wrong(A + "*A:99-24\n", 16);
        wrong(A + "*A:-24\n", 16);
        wrong(A + "*A:8-24\n", 17);
        wrong(A + "*A:008-24\n", 18);
    }

    private static void endHours() {
        Due.sentence("two digits, more than the first ones, at most 24");
        for (int hour = 1; hour <= 24; hour++) {
            right(A + String.format("*A:%02d-%02d\n", hour - 1, hour));
            right(A + String.format("*A:00-%02d\n", hour));
        }
        wrong(A + "*A:00-00\n", 19);
        wrong(A + "*A:23-23\n", 19);
        wrong(A + "*A:23-00\n", 19);
        wrong(A + "*A:08-07\n", 19);
        wrong(A + "*A:00-25\n", 19);
        wrong(A + "*A:23-25\n", 19);
        wrong(A + "*A:00-99\n", 19);
        wrong(A + "*A:08-\n", 19);
        wrong(A + "*A:08-9\n", 20);
        wrong(A + "*A:08-009\n", 19);
        wrong(A + "*A:08-240\n", 21);
    }

    private static void numbersAsFarAsDigitsGo() {
        Due.sentence("A number is read as far as its digits go");
        for (String number : TOO_GREAT_FOR_INT) {
            wrong(weightLine(number), 4);
            wrong(sizeLine(number), 6);
            wrong(baseLine(number), 9);
            wrong(stepLine(number), 11);
        }
        wrong(weightLine("1000000000000000000000000000000000000000000000000001"), 4);
        wrong(baseLine("4294967296"), 9);
        wrong("A:1:10001:", 4);
        wrong("A:1:1000/", 8);
        wrong("A:1:1000 1:", 8);
        // As long as a text may be: all digits.
        Trial longest = new Trial();
        longest.reads(-5, "A:1:" + "1".repeat(496), 0);
    }

    private static void numbersWithToldCount() {
        Due.sentence("(one with a told count of digits: so many)");
        wrong("/01000-0200:1\n", 5);
        wrong("/0100-02000:1\n", 10);
        wrong("/0100-0200:11\n", 12);
        wrong(A + "*A:080-17\n", 18);
        wrong(A + "*A:08-170\n", 21);
        wrong("/100-0200:1\n", 4);
        wrong("/0100-200:1\n", 9);
        wrong(A + "*A:8-17\n", 17);
        wrong(A + "*A:08-9\n", 20);
    }

    private static void zerosInFront() {
        Due.sentence("no 0 stands in front of another digit, but where the count is told");
        right(baseLine("0"));
        wrong(baseLine("00"), 10);
        wrong(baseLine("05"), 10);
        wrong(baseLine("0999"), 10);
        right(stepLine("0"));
        wrong(stepLine("00"), 12);
        wrong(stepLine("05"), 12);
        wrong(stepLine("099"), 12);
        wrong(weightLine("01"), 4);
        wrong(sizeLine("01"), 6);
        right(baseLine("100"));
        right(weightLine("100"));
        Trial counted = Trial.acting(A + "/0000-0009:1\n*A:00-09\n");
        counted.due(1, "zone", 9);
        counted.due(0, "zone", 10);
        counted.due("true", "hours", 'A', 8);
        counted.due("false", "hours", 'A', 9);
    }

    private static void numbersWrongAtFirstSign() {
        Due.sentence("A number that may not be (out of its range, too small; a 0 in front where the number can't be 0)"
                + " is wrong at its first sign");
        String[] weights = {"0", "00", "01", "0100", "01000", "01001", "1001", "1001x", "0x"};
        for (String weight : weights) {
            wrong(weightLine(weight), 4);
            wrong("A:1:" + weight, 4);
        }
        String[] sizes = {"0", "00", "01", "0100", "0500", "0501", "501", "501x", "0x"};
        for (String size : sizes) {
            wrong(sizeLine(size), 6);
            wrong("A:1:1:" + size, 6);
        }
        wrong("A:1:1:1::1000", 9);
        wrong("A:1:1:1::1000x", 9);
        wrong("A:1:1:1::0+100", 11);
        wrong("A:1:1:1::0+100x", 11);
        wrong("/0005-0004", 6);
        wrong("/0005-0004x", 6);
        wrong("/0005-0007:1\n/0007", 14);
        wrong("/0005-0007:1\n/0007x", 14);
        wrong("/0005-0007:0", 11);
        wrong(A + "*A:24", 16);
        wrong(A + "*A:24x", 16);
        wrong(A + "*A:08-08", 19);
        wrong(A + "*A:08-25x", 19);
    }

    private static void lettersWrongAtTheirPlace() {
        Due.sentence("a letter that may not be is wrong at its place");
        wrong("a", 0);
        wrong(A + "A", 13);
        wrong(A + "Ax", 13);
        wrong(A + "*B", 14);
        wrong(A + "*Bx", 14);
        wrong(A + "*A:08-17\n*A", 23);
        wrong(A + "*A:08-17\n*Ax", 23);
        wrong(services(26) + "Z", 26 * 13);
    }

    private static void wrongWhereTheTextCantGoOn() {
        Due.sentence("all else at the first sign with which the text can't go on");
        for (int i = 0; i < ALL_KINDS.length(); i++) {
            wrong(ALL_KINDS.substring(0, i) + "~" + ALL_KINDS.substring(i + 1), i);
            wrong(ALL_KINDS.substring(0, i) + " ", i);
        }
        wrong(A + B + "A;~", 26);
        wrong(A + "B;~\n" + "~~~", 14);
    }

    private static void wrongAtItsLength() {
        Due.sentence("(its length, if it ends too early)");
        for (int length = 0; length < ALL_KINDS.length(); length++) {
            String begun = ALL_KINDS.substring(0, length);
            if (begun.isEmpty() || begun.endsWith("\n")) {
                right(begun);
            } else {
                wrong(begun, length);
            }
        }
    }

    private static void atMostFourEditions() {
        Due.sentence("EDITIONS 1, 2, .. (at most 4): texts that were right");
        Trial run = new Trial();
        for (int number = 1; number <= 4; number++) {
            run.reads(-2, "A", 0);
            run.due(number - 1, "count", 0);
            run.reads(number, baseLine("" + number), 10 * number);
            run.due(number, "count", 0);
        }
        run.reads(Due.NO_ROOM, A, 0);
        run.due(4, "count", 0);
        for (int number = 1; number <= 4; number++) {
            run.due(10 * number, "told", number, 0);
            run.due(number, "today", 10 * number);
            run.due(number, "price", 'A', 1);
        }
        run.due(Due.NO_ELEMENT, "told", 5, 0);
    }

    private static void daysOfEditions() {
        Due.sentence("each with a DAY 0 .. 1000 from which it acts");
        int[] days = {0, 1, 999, 1000};
        for (int day : days) {
            Trial run = new Trial();
            run.reads(1, A, day);
            run.due(day, "told", 1, 0);
            run.due(1, "today", day);
            run.due(1, "today", 1000);
            if (day > 0) {
                run.due(0, "today", day - 1);
            }
        }
        int[] refused = {-1, 1001, Integer.MIN_VALUE, Integer.MAX_VALUE};
        for (int day : refused) {
            Trial run = new Trial();
            run.reads(Due.BAD_ARGUMENT, A, day);
            run.due(0, "count", 0);
        }
    }

    private static void atMostEightServicesAndRanges() {
        Due.sentence("a text has at most 8 services and 8 ranges");
        Trial full = Trial.acting(services(8) + ranges(8) + "*A:00-01\n*H:01-02\n");
        full.due(8, "told", 1, 1);
        full.due(8, "told", 1, 2);
        full.due(2, "told", 1, 3);
        full.due(8, "fits", 1, 1, 1, 0);
        full.ranked("ABCDEFGH");
        full.due(1, "zone", 7);
        full.due(0, "zone", 8);
        String[] overfull = {services(9), services(26), ranges(9), ranges(38), services(9) + ranges(9),
            services(8) + ranges(9), services(9) + ranges(8)};
        for (String text : overfull) {
            Trial run = new Trial();
            run.reads(Due.NO_ROOM, text, 0);
            run.due(0, "count", 0);
        }
    }

    private static void dayZeroAtFirst() {
        Due.sentence("The one that ACTS today (day 0 at first)");
        Trial run = new Trial();
        run.due(0, "count", 4);
        run.reads(1, A, 1);
        run.due(0, "count", 3);
        run.reads(2, A, 0);
        run.due(2, "count", 3);
    }

    private static void greatestDayNotBehindToday() {
        Due.sentence("that with the greatest day not behind today");
        Trial run = new Trial();
        run.reads(1, baseLine("1"), 500);
        run.reads(2, baseLine("2"), 1000);
        run.reads(3, baseLine("3"), 3);
        run.reads(4, baseLine("4"), 4);
        int[][] acting = {{3, 3}, {4, 4}, {499, 4}, {500, 1}, {501, 1}, {999, 1}, {1000, 2}, {3, 3}};
        for (int[] a : acting) {
            run.due(a[1], "today", a[0]);
            run.due(a[1], "price", 'A', 1);
        }
        run.due(0, "today", 2);
    }

    private static void lastReadOfEqualDays() {
        Due.sentence("of equal ones the one that was read last");
        Trial run = new Trial();
        run.reads(1, baseLine("1"), 0);
        run.due(1, "count", 3);
        run.reads(2, baseLine("2"), 0);
        run.due(2, "count", 3);
        run.due(2, "price", 'A', 1);
        run.reads(3, baseLine("3"), 7);
        run.reads(4, baseLine("4"), 7);
        run.due(2, "today", 6);
        run.due(4, "today", 7);
        run.due(4, "price", 'A', 1);
        Trial earlierBetween = new Trial();
        earlierBetween.reads(1, A, 1000);
        earlierBetween.reads(2, A, 5);
        earlierBetween.reads(3, A, 1000);
        earlierBetween.reads(4, A, 0);
        earlierBetween.due(3, "today", 1000);
    }

    private static void noneActsPerhaps() {
        Due.sentence("none perhaps");
        Trial run = new Trial();
        run.due(0, "count", 3);
        run.due(0, "today", 1000);
        run.reads(1, A, 1000);
        run.due(1, "count", 3);
        run.due(0, "today", 999);
        run.due(0, "count", 3);
        run.due(Due.BAD_STATE, "price", 'A', 1);
    }

    private static void begunTens() {
        Due.sentence("base plus step for each begun ten of weight");
        Trial run = Trial.acting("A:1:1:1::5+2\nB:1:1:1::0+99\nC:1:1:1::999+0\nD:1:1:1::999+99\n");
        int[][] prices = {{1, 7, 99}, {9, 7, 99}, {10, 7, 99}, {11, 9, 198}, {19, 9, 198}, {20, 9, 198}, {21, 11, 297},
            {1000, 205, 9900}, {1001, 207, 9999}, {1990, 403, 19701}, {1991, 405, 19800}, {2000, 405, 19800}};
        for (int[] p : prices) {
            run.due(p[1], "price", 'A', p[0]);
            run.due(p[2], "price", 'B', p[0]);
            run.due(999, "price", 'C', p[0]);
            run.due(999 + p[2], "price", 'D', p[0]);
        }
    }

    private static void zoneAndClassAmongItsOwn() {
        Due.sentence("A service FITS if zone and class (0: none) are among its own");
        Trial run = Trial.acting("A:19:1:1:28:0+0\nB:5:1:1::0+0\n");
        for (int zone = 1; zone <= 9; zone++) {
            boolean ofA = zone == 1 || zone == 9;
            run.due(ofA || zone == 5 ? 1 : 0, "fits", 1, 1, zone, 0);
            run.ranked(ofA ? "A" : zone == 5 ? "B" : "");
        }
        for (int danger = 1; danger <= 9; danger++) {
            run.due(danger == 2 || danger == 8 ? 1 : 0, "fits", 1, 1, 9, danger);
            run.due(0, "fits", 1, 1, 5, danger);
        }
    }

    private static void notAboveItsGreatest() {
        Due.sentence("weight and size not above its greatest ones");
        Trial run = Trial.acting("A:1:10:20::0+0\nB:2:1000:500::0+0\nC:3:1:1::0+0\n");
        int[][] packs = {{10, 20, 1, 1}, {11, 20, 1, 0}, {10, 21, 1, 0}, {9, 19, 1, 1}, {11, 21, 1, 0},
            {20, 10, 1, 0}, {1000, 500, 2, 1}, {1001, 500, 2, 0}, {1000, 501, 2, 0}, {2000, 1000, 2, 0},
            {1, 1, 3, 1}, {2, 1, 3, 0}, {1, 2, 3, 0}};
        for (int[] p : packs) {
            run.due(p[3], "fits", p[0], p[1], p[2], 0);
        }
    }

    private static void partsOfALabel() {
        Due.sentence("A LABEL of a service for a code: its letter, the code's zone, '-', the code's four digits");
        Trial run = Trial.acting("A:19:1:1::0+0\nZ:1:1:1::0+0\n/0000-0000:9\n/0001-0999:1\n/9999-9999:9\n");
        int[][] labels = {{'A', 0}, {'A', 1}, {'A', 10}, {'A', 100}, {'A', 999}, {'Z', 999}, {'A', 9999}};
        String[] due = {"A9-0000", "A1-0001", "A1-0010", "A1-0100", "A1-0999", "Z1-0999", "A9-9999"};
        for (int i = 0; i < labels.length; i++) {
            run.due(8, "label", labels[i]);
            for (int k = 0; k < 7; k++) {
                run.due((int) due[i].charAt(k), "out", k);
            }
        }
    }

    private static void checkLetterModulo26() {
        Due.sentence("a CHECK letter: 'A' and more by the sum of (i + 1) times sign i, over the seven signs before"
                + " (i from 0 on), modulo 26");
        Trial run = Trial.acting("A:1:1:1::0+0\n/0000-9999:1\n");
        // A1-0000: 65 + 2 * 49 + 3 * 45 + (4 + 5 + 6 + 7) * 48 = 1354 = 52 * 26 + 2; the last digit weighs 7.
        String[] due = {"A1-0000C", "A1-0001J", "A1-0002Q", "A1-0003X", "A1-0004E", "A1-0005L", "A1-0006S",
            "A1-0007Z", "A1-0008G", "A1-0009N"};
        for (int code = 0; code < due.length; code++) {
            run.due(8, "label", 'A', code);
            run.due((int) due[code].charAt(7), "out", 7);
            run.tracks(1, due[code]);
        }
        // 6 * 4 = 24 more than A1-0000: 26, the letter that begins anew; a letter less is Z.
        run.due(8, "label", 'A', 40);
        run.printed("A1-0040A");
        run.tracks(1, "A1-0040A");
        run.tracks(-5, "A1-0040Z");
        run.tracks(-5, "A1-0007A");
    }

    private static void firstRefusalThatHolds() {
        Due.sentence("REFUSALS, the first that holds");
        Trial full = new Trial();
        for (int i = 1; i <= 4; i++) {
            full.reads(i, A, 5);
        }
        full.due(Due.BAD_ARGUMENT, "read", 1001);
        full.due(-1, "count", 6);
        full.due(Due.NO_ELEMENT, "told", 5, 4);
        full.due(Due.NO_ELEMENT, "print", 5, 'B');
        full.due(Due.BAD_ARGUMENT, "told", 4, 4);
        // No edition acts on day 0.
        full.due(Due.BAD_ARGUMENT, "fits", 0, 1, 1, 0);
        full.due(Due.BAD_STATE, "fits", 1, 1, 1, 0);
        full.due(Due.BAD_ARGUMENT, "zone", 10000);
        full.due(Due.BAD_STATE, "zone", 9999);
        full.due(Due.BAD_STATE, "price", 'B', 0);
        full.due(Due.BAD_STATE, "hours", 'B', 24);
        full.due(Due.BAD_STATE, "label", 'B', 10000);
        full.due(Due.BAD_STATE, "track");
        full.due(4, "today", 5);
        full.due(Due.NO_ELEMENT, "price", 'B', 0);
        full.due(Due.BAD_ARGUMENT, "price", 'A', 0);
        full.due(Due.NO_ELEMENT, "hours", 'B', 24);
        full.due(Due.BAD_ARGUMENT, "hours", 'A', 24);
        full.due(Due.BAD_STATE, "hours", 'A', 23);
        full.due(Due.NO_ELEMENT, "label", 'B', 10000);
        full.due(Due.BAD_ARGUMENT, "label", 'A', 10000);
        for (int i = 0; i < 20; i++) {
            full.due(Trial.GOES, "number", 'A');
        }
        full.due(Due.BAD_ARGUMENT, "number", 10);
        full.due(Due.NO_ROOM, "number", 'A');
        Trial fullText = new Trial();
        fullText.tell("A".repeat(500));
        fullText.due(Due.BAD_ARGUMENT, "sign", 9);
        fullText.due(Due.NO_ROOM, "sign", 'A');
    }

    private static void callsOfAnObject() {
        Due.sentence("An object is used for at most 512 calls after it has been made");
        Trial fullText = new Trial();
        fullText.reads(-14, A + "x".repeat(487), 0);
        fullText.due(1, "read", 0);
        while (fullText.callsMade() < Trial.MOST_CALLS) {
            fullText.due(1, "count", 0);
        }
        Trial packs = Trial.acting(services(8));
        while (packs.callsMade() < Trial.MOST_CALLS) {
            packs.due(8, "fits", 1, 1, 1, 0);
        }
        Trial refusals = new Trial();
        while (refusals.callsMade() < Trial.MOST_CALLS) {
            refusals.due(Due.BAD_STATE, "track");
        }
    }
}
