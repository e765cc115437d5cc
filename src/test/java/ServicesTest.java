/** Promises 7, 8 and 9: price, zone and hours. */
public final class ServicesTest {
    private static final int[] NO_SERVICES = {'B', 'D', 'a', 0, -1, 26, 'A' + 256, Integer.MIN_VALUE, Integer.MAX_VALUE};
    private static final String TEXT = "A:12:10:10::5+2\nC:9:1000:500::999+99\nZ:1:1:1::0+0\n"
            + "/0100-0199:1\n/0200-4000:3\n/4002-4002:2\n*A:08-17\n*C:00-24\n";

    public static void main(String[] args) {
        prices();
        zones();
        pickups();
        Due.end();
    }

    private static void prices() {
        CarrierText x = Due.acting(TEXT);
        int[][] due = {{'A', 1, 7}, {'A', 10, 7}, {'A', 11, 9}, {'A', 20, 9}, {'A', 21, 11}, {'A', 2000, 405},
            {'C', 1, 1098}, {'C', 2000, 20799}, {'C', 1991, 20799}, {'C', 1990, 20700}, {'Z', 2000, 0}};
        for (int[] d : due) {
            Due.is("price(" + d[0] + ", " + d[1] + ")", d[2], () -> x.price(d[0], d[1]));
        }
        int[] refused = {0, -1, 2001, Integer.MIN_VALUE, Integer.MAX_VALUE};
        for (int weight : refused) {
            Due.refuses("price(65, " + weight + ")", Due.BAD_ARGUMENT, () -> x.price('A', weight));
        }
        CarrierText none = new CarrierText();
        for (int service : NO_SERVICES) {
            Due.refuses("price(" + service + ", 1)", Due.NO_ELEMENT, () -> x.price(service, 1));
            Due.refuses("price(" + service + ", 0)", Due.NO_ELEMENT, () -> x.price(service, 0));
            Due.refuses("price(" + service + ", 0), none acts", Due.BAD_STATE, () -> none.price(service, 0));
        }
    }

    private static void zones() {
        CarrierText x = Due.acting(TEXT);
        int[][] due = {{0, 0}, {99, 0}, {100, 1}, {150, 1}, {199, 1}, {200, 3}, {4000, 3}, {4001, 0}, {4002, 2},
            {4003, 0}, {9999, 0}};
        for (int[] d : due) {
            Due.is("zone(" + d[0] + ")", d[1], () -> x.zone(d[0]));
        }
        CarrierText all = Due.acting("/0000-9999:9\n");
        Due.is("zone(0) of all", 9, () -> all.zone(0));
        Due.is("zone(9999) of all", 9, () -> all.zone(9999));
        CarrierText none = new CarrierText();
        int[] refused = {-1, 10000, Integer.MIN_VALUE, Integer.MAX_VALUE};
        for (int code : refused) {
            Due.refuses("zone(" + code + ")", Due.BAD_ARGUMENT, () -> x.zone(code));
            Due.refuses("zone(" + code + "), none acts", Due.BAD_ARGUMENT, () -> none.zone(code));
        }
        Due.refuses("zone(0), none acts", Due.BAD_STATE, () -> none.zone(0));
    }

    private static void pickups() {
        CarrierText x = Due.acting(TEXT);
        for (int hour = 0; hour <= 23; hour++) {
            int asked = hour;
            Due.is("hours(65, " + hour + ")", hour >= 8 && hour < 17 ? 1 : 0, () -> Due.flag(x.hours('A', asked)));
            Due.is("hours(67, " + hour + ")", 1, () -> Due.flag(x.hours('C', asked)));
        }
        CarrierText none = new CarrierText();
        int[] refused = {-1, 24, Integer.MIN_VALUE, Integer.MAX_VALUE};
        for (int hour : refused) {
            Due.refuses("hours(65, " + hour + ")", Due.BAD_ARGUMENT, () -> Due.flag(x.hours('A', hour)));
            Due.refuses("hours(90, " + hour + ")", Due.BAD_ARGUMENT, () -> Due.flag(x.hours('Z', hour)));
        }
        Due.refuses("hours(90, 1), not told", Due.BAD_STATE, () -> Due.flag(x.hours('Z', 1)));
        for (int service : NO_SERVICES) {
            Due.refuses("hours(" + service + ", 24)", Due.NO_ELEMENT, () -> Due.flag(x.hours(service, 24)));
            Due.refuses("hours(" + service + ", 24), none acts", Due.BAD_STATE,
                    () -> Due.flag(none.hours(service, 24)));
        }
    }
}
