/** Promises 4 and 15: the edition that acts by days, and what is told of editions. */
public final class ActingTest {
    private static final String A = "A:1:1:1::0+0\n";

    public static void main(String[] args) {
        actsByDays();
        equalDays();
        refusedDays();
        toldOfEditions();
        Due.end();
    }

    private static void acts(CarrierText x, int day, int edition) {
        Due.is("today(" + day + ")", edition, () -> x.today(day));
        Due.is("count(3)", edition, () -> x.count(3));
        Due.is("count(4)", day, () -> x.count(4));
    }

    private static void actsByDays() {
        CarrierText x = new CarrierText();
        acts(x, 1000, 0);
        acts(x, 0, 0);
        Due.readText(x, A, 5);
        Due.is("an edition of a later day", 0, () -> x.count(3));
        Due.readText(x, A, 1000);
        Due.readText(x, A, 3);
        acts(x, 2, 0);
        acts(x, 3, 3);
        acts(x, 4, 3);
        acts(x, 5, 1);
        acts(x, 999, 1);
        acts(x, 1000, 2);
        acts(x, 4, 3);
        Due.readText(x, A, 0);
        acts(x, 0, 4);
        acts(x, 3, 3);
    }

    private static void equalDays() {
        CarrierText x = new CarrierText();
        Due.readText(x, "A:1:1:1::1+0\n", 0);
        Due.is("acts at once", 1, () -> x.count(3));
        Due.readText(x, "A:1:1:1::2+0\n", 0);
        Due.is("the last of equal days", 2, () -> x.count(3));
        Due.is("its price", 2, () -> x.price('A', 1));
        Due.readText(x, "A:1:1:1::3+0\n", 1);
        Due.is("a later day", 2, () -> x.count(3));
    }

    private static void refusedDays() {
        CarrierText x = Due.acting(A);
        x.today(9);
        x.fits(1, 1, 1, 0);
        int[] refused = {-1, 1001, Integer.MIN_VALUE, Integer.MAX_VALUE};
        for (int day : refused) {
            Due.refuses("today(" + day + ")", Due.BAD_ARGUMENT, () -> x.today(day));
        }
        Due.is("today is as before", 9, () -> x.count(4));
        Due.is("at(0) is as before", 'A', () -> x.at(0));
    }

    private static void toldOfEditions() {
        CarrierText x = new CarrierText();
        Due.readText(x, A + "B:1:1:1::0+0\nC:1:1:1::0+0\n/0000-0001:1\n*A:00-01\n*C:00-01\n", 8);
        Due.readText(x, "", 9);
        int[] first = {8, 3, 1, 2};
        int[] second = {9, 0, 0, 0};
        for (int what = 0; what <= 3; what++) {
            int asked = what;
            Due.is("told(1, " + what + ")", first[what], () -> x.told(1, asked));
            Due.is("told(2, " + what + ")", second[what], () -> x.told(2, asked));
        }
        int[] none = {0, 3, 4, 5, -1, Integer.MIN_VALUE, Integer.MAX_VALUE};
        for (int edition : none) {
            Due.refuses("told(" + edition + ", 0)", Due.NO_ELEMENT, () -> x.told(edition, 0));
            Due.refuses("told(" + edition + ", 4)", Due.NO_ELEMENT, () -> x.told(edition, 4));
        }
        int[] nothing = {-1, 4, Integer.MIN_VALUE, Integer.MAX_VALUE};
        for (int what : nothing) {
            Due.refuses("told(1, " + what + ")", Due.BAD_ARGUMENT, () -> x.told(1, what));
        }
    }
}
