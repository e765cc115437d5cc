/** Promises 5 and 6: services that fit a pack, and their order. */
public final class FitsTest {
    private static final String TEXT = "A:123:100:60:17:5+2\nB:1:1000:500::0+4\nC:9:1000:500:9:0+0\n";

    public static void main(String[] args) {
        whatFits();
        order();
        refusals();
        howLongTheOrderStays();
        Due.end();
    }

    private static void fit(CarrierText x, int weight, int size, int zone, int danger, String letters) {
        String call = "fits(" + weight + ", " + size + ", " + zone + ", " + danger + ")";
        Due.is(call, letters.length(), () -> x.fits(weight, size, zone, danger));
        Due.is("at() behind " + call, letters, Due.ranked(x));
    }

    private static void whatFits() {
        CarrierText x = Due.acting(TEXT);
        fit(x, 50, 40, 1, 0, "AB");
        fit(x, 100, 60, 3, 0, "A");
        fit(x, 101, 60, 3, 0, "");
        fit(x, 100, 61, 3, 0, "");
        fit(x, 100, 60, 4, 0, "");
        fit(x, 1, 1, 1, 1, "A");
        fit(x, 1, 1, 2, 7, "A");
        fit(x, 1, 1, 1, 2, "");
        fit(x, 1, 1, 9, 9, "C");
        fit(x, 1000, 500, 1, 0, "B");
        fit(x, 1001, 500, 1, 0, "");
        fit(x, 1000, 501, 1, 0, "");
        fit(x, 2000, 1000, 9, 9, "");
        Due.is("at(-1)", -1, () -> x.at(-1));
        CarrierText empty = Due.acting("");
        fit(empty, 1, 1, 1, 0, "");
    }

    private static void order() {
        CarrierText x = Due.acting("D:1:1000:500::3+2\nA:1:1000:500::1+4\nC:1:1000:500::5+0\nB:1:1000:500::5+0\n"
                + "H:1:1000:500::0+5\nG:1:1000:500::0+0\nF:1:1000:500::0+0\nE:1:1000:500::999+99\n");
        fit(x, 1, 1, 1, 0, "GFDACBHE");
        fit(x, 10, 1, 1, 0, "GFDACBHE");
        fit(x, 11, 1, 1, 0, "GFCBDAHE");
        fit(x, 1000, 1, 1, 0, "GFCBDAHE");
        Due.is("at(7)", 'E', () -> x.at(7));
        int[] none = {8, 9, -1, Integer.MIN_VALUE, Integer.MAX_VALUE};
        for (int i : none) {
            Due.is("at(" + i + ")", -1, () -> x.at(i));
        }
    }

    private static void refusals() {
        CarrierText x = Due.acting(TEXT);
        CarrierText none = new CarrierText();
        int[][] packs = {{0, 1, 1, 0}, {2001, 1, 1, 0}, {1, 0, 1, 0}, {1, 1001, 1, 0}, {1, 1, 0, 0}, {1, 1, 10, 0},
            {1, 1, 1, -1}, {1, 1, 1, 10}, {Integer.MIN_VALUE, 1, 1, 0}, {1, Integer.MAX_VALUE, 1, 0},
            {1, 1, 33, 0}, {1, 1, 1, 33}};
        x.fits(50, 40, 1, 0);
        for (int[] p : packs) {
            String call = "fits(" + p[0] + ", " + p[1] + ", " + p[2] + ", " + p[3] + ")";
            Due.refuses(call, Due.BAD_ARGUMENT, () -> x.fits(p[0], p[1], p[2], p[3]));
            Due.refuses(call + ", none acts", Due.BAD_ARGUMENT, () -> none.fits(p[0], p[1], p[2], p[3]));
        }
        Due.is("at() behind refused packs", "AB", Due.ranked(x));
        Due.refuses("fits(1, 1, 1, 0), none acts", Due.BAD_STATE, () -> none.fits(1, 1, 1, 0));
        Due.refuses("fits(2000, 1000, 9, 9), none acts", Due.BAD_STATE, () -> none.fits(2000, 1000, 9, 9));
    }

    private static void howLongTheOrderStays() {
        CarrierText x = new CarrierText();
        Due.is("at(0) of a new object", -1, () -> x.at(0));
        Due.readText(x, TEXT, 0);
        Due.is("at(0) before fits()", -1, () -> x.at(0));
        x.fits(50, 40, 1, 0);
        Due.readText(x, "wrong", 0);
        Due.is("at() behind a wrong text", "AB", Due.ranked(x));
        x.price('A', 1);
        x.zone(1);
        x.print(1, 'C');
        Due.is("at() behind other calls", "AB", Due.ranked(x));
        Due.readText(x, "", 1000);
        Due.is("at() behind a new edition", "", Due.ranked(x));
        x.fits(50, 40, 1, 0);
        x.today(0);
        Due.is("at() behind today()", "", Due.ranked(x));
        Due.readText(x, "", 1000);
        Due.readText(x, "", 1000);
        x.fits(50, 40, 1, 0);
        Due.refuses("a fifth edition", Due.NO_ROOM, () -> x.read(0));
        Due.is("at() behind an edition without room", "AB", Due.ranked(x));
    }
}
