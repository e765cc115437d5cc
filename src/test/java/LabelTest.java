/** Promises 10 to 14: labels and services printed, their signs, labels checked. */
public final class LabelTest {
    private static final int[] NO_SERVICES = {'D', 'a', 0, -1, 'A' + 256, Integer.MIN_VALUE, Integer.MAX_VALUE};
    private static final String TEXT = "A:123:100:60:17:5+2\nB:1:1000:500::0+4\nC:9:1:1:9:0+0\n"
            + "/0000-0000:9\n/0100-0199:1\n/0200-4000:3\n/9999-9999:9\n";

    public static void main(String[] args) {
        labels();
        labelRefusals();
        lines();
        lineRefusals();
        signsPrinted();
        checks();
        everyCheckLetter();
        checksWithoutEdition();
        Due.end();
    }

    private static void prints(CarrierText x, int service, int code, String due) {
        Due.is("label(" + service + ", " + code + ")", 8, () -> x.label(service, code));
        Due.is("what it printed", due, Due.printed(x));
    }

    private static void labels() {
        CarrierText x = Due.acting(TEXT);
        prints(x, 'A', 150, "A1-0150L");
        // 65 + 2 * 51 + 3 * 45 + 4 * 52 + 5 * 48 + 6 * 48 + 7 * 48 = 1374 = 52 * 26 + 22
        prints(x, 'A', 4000, "A3-4000W");
        // 67 + 2 * 57 + 3 * 45 + 4 * 48 + 5 * 48 + 6 * 48 + 7 * 48 = 1372 = 52 * 26 + 20
        prints(x, 'C', 0, "C9-0000U");
        // 67 + 2 * 57 + 3 * 45 + 22 * 57 = 1570 = 60 * 26 + 10
        prints(x, 'C', 9999, "C9-9999K");
        Due.is("a zone that is not of the service", 0, () -> x.label('B', 300));
        Due.is("a code without a zone", 0, () -> x.label('B', 99));
        Due.is("nothing is printed then", "C9-9999K", Due.printed(x));
    }

    private static void labelRefusals() {
        CarrierText x = Due.acting(TEXT);
        CarrierText none = new CarrierText();
        x.label('A', 150);
        int[] refused = {-1, 10000, Integer.MIN_VALUE, Integer.MAX_VALUE};
        for (int code : refused) {
            Due.refuses("label(65, " + code + ")", Due.BAD_ARGUMENT, () -> x.label('A', code));
            Due.refuses("label(68, " + code + ")", Due.NO_ELEMENT, () -> x.label('D', code));
            Due.refuses("label(65, " + code + "), none acts", Due.BAD_STATE, () -> none.label('A', code));
        }
        for (int service : NO_SERVICES) {
            Due.refuses("label(" + service + ", 150)", Due.NO_ELEMENT, () -> x.label(service, 150));
        }
        Due.is("printed as before", "A1-0150L", Due.printed(x));
    }

    private static void lines() {
        String[] due = {"A:123:100:60:17:5+2", "B:1:1000:500::0+4", "C:9:1:1:9:0+0", "D:5:10:9:5:10+10",
            "E:123456789:999:499:123456789:999+99", "F:29:101:110:1:100+1", "G:1:90:100::90+9"};
        CarrierText x = new CarrierText();
        Due.readText(x, "A:1:1:1::0+0\n", 0);
        Due.readText(x, String.join("\n", due) + "\n*A:08-17\n", 1000);
        for (String line : due) {
            int letter = line.charAt(0);
            Due.is("print of " + line, line.length(), () -> x.print(2, letter));
            Due.is("what it printed", line, Due.printed(x));
        }
        Due.is("print(1, 65)", 12, () -> x.print(1, 'A'));
        Due.is("what it printed", "A:1:1:1::0+0", Due.printed(x));
        CarrierText widest = Due.acting("Z:123456789:1000:500:123456789:999+99\n");
        Due.is("print of the longest line", 37, () -> widest.print(1, 'Z'));
        Due.is("what it printed", "Z:123456789:1000:500:123456789:999+99", Due.printed(widest));
    }

    private static void lineRefusals() {
        CarrierText x = Due.acting(TEXT);
        x.print(1, 'C');
        int[] refused = {0, 2, 4, 5, -1, Integer.MIN_VALUE, Integer.MAX_VALUE};
        for (int edition : refused) {
            Due.refuses("print(" + edition + ", 65)", Due.NO_ELEMENT, () -> x.print(edition, 'A'));
        }
        for (int service : NO_SERVICES) {
            Due.refuses("print(1, " + service + ")", Due.NO_ELEMENT, () -> x.print(1, service));
        }
        Due.is("printed as before", "C:9:1:1:9:0+0", Due.printed(x));
    }

    private static void signsPrinted() {
        CarrierText x = Due.acting(TEXT);
        x.print(1, 'A');
        Due.is("count(5) behind print", 19, () -> x.count(5));
        Due.is("out(18)", '2', () -> x.out(18));
        x.label('A', 150);
        Due.is("count(5) behind label", 8, () -> x.count(5));
        Due.is("out(0)", 'A', () -> x.out(0));
        Due.is("out(7)", 'L', () -> x.out(7));
        int[] refused = {-1, 8, 18, 37, 38, Integer.MIN_VALUE, Integer.MAX_VALUE};
        for (int i : refused) {
            Due.refuses("out(" + i + ")", Due.BAD_ARGUMENT, () -> x.out(i));
        }
    }

    private static void checked(CarrierText x, String label, int due) {
        Due.is("track() of " + label, due, () -> Due.track(x, label));
        Due.is("label's signs behind it", 0, () -> x.count(2));
    }

    private static void checks() {
        CarrierText x = Due.acting(TEXT);
        checked(x, "A1-0150L", 1);
        checked(x, "A3-4000W", 1);
        checked(x, "C9-0000U", 1);
        checked(x, "C9-9999K", 1);
        checked(x, "", -1);
        checked(x, "A1-0150", -1);
        checked(x, "A1-0150LL", -1);
        checked(x, "A1-0150L            ", -1);
        String[] formless = {"11-0150L", "a1-0150L", "@1-0150L", "[1-0150L", "A0-0150L", "Ax-0150L", "A:-0150L",
            "A1+0150L", "A1-x150L", "A1-0x50L", "A1-01x0L", "A1-015xL", "A1-/150L", "A1-015:L", "A1-0150l",
            "A1-01501", "A1-0150@", "A1-0150[", "        "};
        for (String label : formless) {
            checked(x, label, -2);
        }
        checked(x, "D1-0150L", -3);
        checked(x, "Z9-5000A", -3);
        checked(x, "A3-0150L", -4);
        checked(x, "A2-0150L", -4);
        checked(x, "A1-5000L", -4);
        checked(x, "B3-0300L", -4);
        checked(x, "C1-0150L", -4);
        checked(x, "A1-0150X", -5);
        checked(x, "A1-0150K", -5);
        checked(x, "A1-0151L", -5);
    }

    private static void everyCheckLetter() {
        CarrierText x = Due.acting(TEXT);
        for (int letter = 'A'; letter <= 'Z'; letter++) {
            checked(x, "A1-0150" + (char) letter, letter == 'L' ? 1 : -5);
        }
    }

    private static void checksWithoutEdition() {
        CarrierText x = new CarrierText();
        Due.readText(x, TEXT, 5);
        Due.enter(x, "A1-0150L");
        Due.refuses("track(), none acts", Due.BAD_STATE, () -> x.track());
        Due.is("label's signs stay", 8, () -> x.count(2));
        x.today(5);
        Due.is("track() when one acts", 1, () -> x.track());
        Due.is("track() again", -1, () -> x.track());
    }
}
