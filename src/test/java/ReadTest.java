/** Promise 3: texts that are right, texts that are wrong and where, and those that there is no room for. */
public final class ReadTest {
    private static final String A = "A:1:1:1::0+0\n";

    public static void main(String[] args) {
        rightTexts();
        wrongServices();
        wrongNumbers();
        wrongRanges();
        wrongHours();
        days();
        room();
        fourEditions();
        nothingStaysOfWrongTexts();
        Due.end();
    }

    private static void right(String text) {
        CarrierText x = new CarrierText();
        Due.is("read of " + Due.shown(text), 1, () -> Due.readText(x, text, 0));
        Due.is("signs behind it", 0, () -> x.count(1));
    }

    private static void wrong(String text, int place) {
        CarrierText x = new CarrierText();
        Due.is("read of " + Due.shown(text), -1 - place, () -> Due.readText(x, text, 0));
        Due.is("signs behind it", 0, () -> x.count(1));
        Due.is("editions behind it", 0, () -> x.count(0));
    }

    private static void rightTexts() {
        right("");
        right(A);
        right("Z:123456789:1000:500:123456789:999+99\n");
        right("/0000-9999:9\n");
        right("/0000-0000:1\n/0001-0001:1\n/9999-9999:2\n");
        right(A + "*A:00-24\n");
        right(A + "*A:23-24\n");
        right(A + "*A:00-01\n");
        right("/0007-0008:3\n" + A + "/0010-0020:4\n*A:09-10\nB:9:10:20:8:10+10\n*B:10-11\n");
    }

    private static void wrongServices() {
        wrong("\n", 0);
        wrong("a:1:1:1::0+0\n", 0);
        wrong(" A:1:1:1::0+0\n", 0);
        wrong("@", 0);
        wrong("[", 0);
        wrong("A", 1);
        wrong("A;", 1);
        wrong("A::1:1::0+0\n", 2);
        wrong("A:0:1:1::0+0\n", 2);
        wrong("A:11:", 3);
        wrong("A:21:", 3);
        wrong("A:1234567899:", 11);
        wrong("A:10:", 3);
        wrong("A:1", 3);
        wrong("A:1:1:1:21:0+0\n", 9);
        wrong("A:1:1:1:11:0+0\n", 9);
        wrong("A:1:1:1:0:0+0\n", 8);
        wrong("A:1:1:1::0-0\n", 10);
        wrong("A:1:1:1::0+0", 12);
        wrong("A:1:1:1::0+0 \n", 12);
        wrong(A + "\n", 13);
        wrong(A + A, 13);
        wrong(A + "B:1:1:1::0+0\nA", 26);
        wrong("A:1:1:1::0+0\nB:1:1:1::0+0", 25);
    }

    private static void wrongNumbers() {
        wrong("A:1:", 4);
        wrong("A:1::", 4);
        wrong("A:1:x", 4);
        wrong("A:1:0:", 4);
        wrong("A:1:0", 4);
        wrong("A:1:01:", 4);
        wrong("A:1:1001:", 4);
        wrong("A:1:1001", 4);
        wrong("A:1:1001x", 4);
        wrong("A:1:1000x", 8);
        wrong("A:1:1000", 8);
        wrong("A:1:10001:", 4);
        wrong("A:1:1:5000:", 6);
        wrong("A:1:1:1::9990+0\n", 9);
        wrong("A:1:1:1::0+990\n", 11);
        wrong("A:1:1:1::\n", 9);
        wrong("A:1:1:1::0\n", 10);
        wrong("A:1:4294967297:1::0+0\n", 4);
        wrong("A:1:99999999999999999999999999999999999999:", 4);
        wrong("A:1:1:", 6);
        wrong("A:1:1:0:", 6);
        wrong("A:1:1:07:", 6);
        wrong("A:1:1:501:", 6);
        wrong("A:1:1:500", 9);
        wrong("A:1:1:1::+0\n", 9);
        wrong("A:1:1:1::00+0\n", 10);
        wrong("A:1:1:1::05+0\n", 10);
        wrong("A:1:1:1::01000+0\n", 10);
        wrong("A:1:1:1::1000+0\n", 9);
        wrong("A:1:1:1::-1+0\n", 9);
        wrong("A:1:1:1::0+\n", 11);
        wrong("A:1:1:1::0+100\n", 11);
        wrong("A:1:1:1::0+00\n", 12);
        wrong("A:1:1:1::0+07\n", 12);
        wrong("A:1:1:1::0+99", 13);
    }

    private static void wrongRanges() {
        wrong("/", 1);
        wrong("/x", 1);
        wrong("/000", 4);
        wrong("/000-", 4);
        wrong("/00000-0001:1\n", 5);
        wrong("/0000:", 5);
        wrong("/0000-", 6);
        wrong("/0000-1x", 7);
        wrong("/0005-0004:1\n", 6);
        wrong("/0005-0004", 6);
        wrong("/0005-000", 9);
        wrong("/0005-00050", 10);
        wrong("/0005-0005:", 11);
        wrong("/0005-0005:0\n", 11);
        wrong("/0005-0005:x\n", 11);
        wrong("/0005-0005:1", 12);
        wrong("/0005-0005:12\n", 12);
        wrong("/0005-0007:1\n/0007-0009:1\n", 14);
        wrong("/0005-0007:1\n/0004-0009:1\n", 14);
        wrong("/0005-0007:1\n/0001-0002:1\n", 14);
        wrong("/0005-9999:1\n/9999-9999:1\n", 14);
        wrong("/0005-0007:1\n" + A + "/0007-0009:1\n", 27);
    }

    private static void wrongHours() {
        wrong("*", 1);
        wrong("*A:08-17\n", 1);
        wrong("*A:08-17\n" + A, 1);
        wrong(A + "*B:08-17\n", 14);
        wrong(A + "*a:08-17\n", 14);
        wrong(A + "*", 14);
        wrong(A + "*A", 15);
        wrong(A + "*A-", 15);
        wrong(A + "*A:", 16);
        wrong(A + "*A:8-17\n", 17);
        wrong(A + "*A:0", 17);
        wrong(A + "*A:24-24\n", 16);
        wrong(A + "*A:99-99\n", 16);
        wrong(A + "*A:24", 16);
        wrong(A + "*A:080", 18);
        wrong(A + "*A:08:17\n", 18);
        wrong(A + "*A:08-08\n", 19);
        wrong(A + "*A:08-07\n", 19);
        wrong(A + "*A:08-25\n", 19);
        wrong(A + "*A:08-9\n", 20);
        wrong(A + "*A:08-17", 21);
        wrong(A + "*A:08-170\n", 21);
        wrong(A + "*A:08-17\n*A:18-19\n", 23);
    }

    private static void days() {
        CarrierText x = new CarrierText();
        Due.tell(x, A);
        int[] refused = {-1, 1001, Integer.MIN_VALUE, Integer.MAX_VALUE};
        for (int day : refused) {
            Due.refuses("read(" + day + ")", Due.BAD_ARGUMENT, () -> x.read(day));
        }
        Due.is("signs behind a refused day", 13, () -> x.count(1));
        Due.is("read(1000)", 1, () -> x.read(1000));
        Due.is("its day", 1000, () -> x.told(1, 0));
        Due.is("read of a second text", 2, () -> Due.readText(x, A, 0));
        Due.is("editions", 2, () -> x.count(0));
        // What an earlier text told says nothing in the next one.
        Due.is("hours of a service of an earlier text", -2, () -> Due.readText(x, "*A:08-17\n", 0));
        Due.is("ranges begin anew", 3, () -> Due.readText(x, "/0000-0000:1\n", 0));
        Due.is("ranges begin anew again", 4, () -> Due.readText(x, "/0000-0000:1\n", 0));
    }

    private static String services(int howMany) {
        StringBuilder text = new StringBuilder();
        for (int i = 0; i < howMany; i++) {
            text.append((char) ('A' + i)).append(":1:1:1::0+0\n");
        }
        return text.toString();
    }

    private static String ranges(int howMany) {
        StringBuilder text = new StringBuilder();
        for (int i = 0; i < howMany; i++) {
            text.append("/").append(1000 + i).append("-").append(1000 + i).append(":1\n");
        }
        return text.toString();
    }

    private static void noRoom(String text) {
        CarrierText x = new CarrierText();
        Due.refuses("read of " + Due.shown(text), Due.NO_ROOM, () -> Due.readText(x, text, 0));
        Due.is("signs behind it", 0, () -> x.count(1));
        Due.is("editions behind it", 0, () -> x.count(0));
        Due.is("a text behind it", 1, () -> Due.readText(x, A, 0));
        Due.is("services of the text behind it", 1, () -> x.told(1, 1));
        Due.is("ranges of the text behind it", 0, () -> x.told(1, 2));
    }

    private static void room() {
        right(services(8) + ranges(8));
        noRoom(services(9));
        noRoom(services(26));
        noRoom(ranges(9));
        noRoom(ranges(37));
        noRoom(services(9) + "*I:01-02\n");
        wrong(services(9) + "*I:01-02\n*I:01-02\n", 9 * 13 + 10);
        wrong(services(9) + "I", 9 * 13);
        wrong(services(9) + "x", 9 * 13);
        wrong(ranges(9) + "/1008-1009:1\n", 9 * 13 + 1);
    }

    private static void fourEditions() {
        CarrierText x = new CarrierText();
        for (int i = 1; i <= 4; i++) {
            int number = i;
            Due.is("edition " + i, number, () -> Due.readText(x, A, 0));
        }
        Due.refuses("a fifth edition", Due.NO_ROOM, () -> Due.readText(x, A, 0));
        Due.is("signs behind it", 0, () -> x.count(1));
        Due.is("a wrong text when there are four", -2, () -> Due.readText(x, "A", 0));
        Due.refuses("a fifth edition, empty", Due.NO_ROOM, () -> x.read(0));
        Due.refuses("a fifth edition, a wrong day", Due.BAD_ARGUMENT, () -> x.read(1001));
        Due.is("editions", 4, () -> x.count(0));
    }

    private static void nothingStaysOfWrongTexts() {
        CarrierText x = new CarrierText();
        Due.is("a wrong text", -43, () -> Due.readText(x, A + "/0001-0009:1\n*A:08-17\n/0010-0", 0));
        Due.is("an empty text behind it", 1, () -> x.read(0));
        Due.is("its services", 0, () -> x.told(1, 1));
        Due.is("its ranges", 0, () -> x.told(1, 2));
        Due.is("its hours", 0, () -> x.told(1, 3));
        Due.is("its zone of a code", 0, () -> x.zone(1));
        Due.is("its services that fit", 0, () -> x.fits(1, 1, 1, 0));
        Due.refuses("its price", Due.NO_ELEMENT, () -> x.price('A', 1));
    }
}
