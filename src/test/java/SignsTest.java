/** Promises 1, 2, 13 and 16: a new object, signs of the text and of a label, counts. */
public final class SignsTest {
    public static void main(String[] args) {
        newObject();
        signsOfText();
        fullText();
        signsOfLabel();
        counts();
        Due.end();
    }

    private static void newObject() {
        CarrierText x = new CarrierText();
        for (int what = 0; what <= 5; what++) {
            int asked = what;
            Due.is("new: count(" + what + ")", 0, () -> x.count(asked));
        }
        Due.is("new: at(0)", -1, () -> x.at(0));
        Due.refuses("new: out(0)", Due.BAD_ARGUMENT, () -> x.out(0));
        Due.refuses("new: told(1, 0)", Due.NO_ELEMENT, () -> x.told(1, 0));
        Due.refuses("new: print(1, 65)", Due.NO_ELEMENT, () -> x.print(1, 65));
        Due.refuses("new: track()", Due.BAD_STATE, () -> x.track());
        Due.is("new: today(0)", 0, () -> x.today(0));
    }

    private static void signsOfText() {
        CarrierText x = new CarrierText();
        int[] refused = {Integer.MIN_VALUE, -1, 0, 9, 11, 13, 31, 127, 128, 266, Integer.MAX_VALUE};
        for (int c : refused) {
            Due.refuses("sign(" + c + ")", Due.BAD_ARGUMENT, () -> x.sign(c));
        }
        Due.is("signs behind refused ones", 0, () -> x.count(1));
        int[] taken = {10, 32, 126, 65};
        for (int c : taken) {
            Due.goes("sign(" + c + ")", () -> x.sign(c));
        }
        Due.is("signs taken", 4, () -> x.count(1));
    }

    private static void fullText() {
        CarrierText x = new CarrierText();
        for (int i = 0; i < 499; i++) {
            x.sign('A');
        }
        Due.goes("sign 500", () -> x.sign('A'));
        Due.refuses("sign 501", Due.NO_ROOM, () -> x.sign('A'));
        Due.refuses("sign 501, a wrong one", Due.BAD_ARGUMENT, () -> x.sign(11));
        Due.is("signs when full", 500, () -> x.count(1));
        Due.is("read of the full text", -2, () -> x.read(0));
        Due.is("signs behind read", 0, () -> x.count(1));
        Due.goes("sign behind read", () -> x.sign('A'));
    }

    private static void signsOfLabel() {
        CarrierText x = new CarrierText();
        int[] refused = {Integer.MIN_VALUE, -1, 0, 10, 31, 127, Integer.MAX_VALUE};
        for (int c : refused) {
            Due.refuses("number(" + c + ")", Due.BAD_ARGUMENT, () -> x.number(c));
        }
        Due.goes("number(32)", () -> x.number(32));
        Due.goes("number(126)", () -> x.number(126));
        for (int i = 2; i < 19; i++) {
            x.number('A');
        }
        Due.goes("number 20", () -> x.number('A'));
        Due.refuses("number 21", Due.NO_ROOM, () -> x.number('A'));
        Due.refuses("number 21, a wrong one", Due.BAD_ARGUMENT, () -> x.number(10));
        Due.is("label's signs when full", 20, () -> x.count(2));
        Due.is("text's signs beside them", 0, () -> x.count(1));
    }

    private static void counts() {
        CarrierText x = Due.acting("A:1:1:1::0+0\n/0000-0009:1\n");
        Due.readText(x, "", 7);
        Due.tell(x, "A:1");
        Due.enter(x, "A1");
        x.today(6);
        x.label('A', 5);
        int[] due = {2, 3, 2, 1, 6, 8};
        for (int what = 0; what < due.length; what++) {
            int asked = what;
            Due.is("count(" + what + ")", due[what], () -> x.count(asked));
        }
        int[] other = {-1, 6, Integer.MIN_VALUE, Integer.MAX_VALUE};
        for (int what : other) {
            Due.is("count(" + what + ")", -1, () -> x.count(what));
        }
    }
}
