/**
 * A new object and the calls made on it, each with the answer that is due. The document says nothing of an
 * object behind its 512th call, so a test that makes more is wrong itself.
 */
final class Trial {
    static final int MOST_CALLS = 512;
    static final String GOES = "goes";

    private final CarrierText x = new CarrierText();
    private int calls;

    /** An object whose first text is read as an edition for day 0, so that it acts. */
    static Trial acting(String text) {
        Trial run = new Trial();
        run.reads(1, text, 0);
        return run;
    }

    /** The answer due is a number, GOES for a call that answers nothing, or an exception's name. */
    void due(Object want, String call, int... with) {
        StringBuilder shown = new StringBuilder(call).append('(');
        for (int i = 0; i < with.length; i++) {
            shown.append(i == 0 ? "" : ", ").append(with[i]);
        }
        Due.is(shown.append(')').toString(), want.toString(), answer(call, with));
    }

    void tell(String text) {
        for (int i = 0; i < text.length(); i++) {
            due(GOES, "sign", text.charAt(i));
        }
    }

    void reads(Object want, String text, int day) {
        tell(text);
        Due.is("read(" + day + ") of " + Due.shown(text), want.toString(), answer("read", day));
    }

    void enter(String label) {
        for (int i = 0; i < label.length(); i++) {
            due(GOES, "number", label.charAt(i));
        }
    }

    void tracks(int want, String label) {
        enter(label);
        Due.is("track() of " + label, Integer.toString(want), answer("track"));
    }

    void printed(String want) {
        due(want.length(), "count", 5);
        StringBuilder got = new StringBuilder();
        for (int i = 0; i < want.length(); i++) {
            got.append(sign(answer("out", i)));
        }
        Due.is("what was printed last", want, got.toString());
        due(Due.BAD_ARGUMENT, "out", want.length());
    }

    /** The letters of the latest fits(), and no more of them. */
    void ranked(String want) {
        StringBuilder got = new StringBuilder();
        for (int i = 0; i < want.length(); i++) {
            got.append(sign(answer("at", i)));
        }
        Due.is("at() from 0 on", want, got.toString());
        due(-1, "at", want.length());
    }

    /** All that count(), at() and out() tell. */
    String state() {
        StringBuilder told = new StringBuilder();
        for (int what = 0; what <= 5; what++) {
            told.append(answer("count", what)).append(' ');
        }
        for (int i = 0; i < 8; i++) {
            told.append(answer("at", i)).append(' ');
        }
        for (int i = 0; i < 10; i++) {
            told.append(answer("out", i)).append(' ');
        }
        return told.toString();
    }

    void stateIs(String want) {
        Due.is("the state (count, at, out)", want, state());
    }

    int callsMade() {
        return calls;
    }

    private static String sign(String answer) {
        return answer.matches("\\d+") ? Character.toString(Integer.parseInt(answer)) : "{" + answer + "}";
    }

    private String answer(String call, int... with) {
        calls++;
        if (calls > MOST_CALLS) {
            return "nothing that is promised: this test makes too many calls";
        }
        try {
            return made(call, with);
        } catch (RuntimeException e) {
            return e.getClass().getSimpleName();
        }
    }

    private String made(String call, int[] with) {
        switch (call) {
            case "sign":
                x.sign(with[0]);
                return GOES;
            case "number":
                x.number(with[0]);
                return GOES;
            case "hours":
                return Boolean.toString(x.hours(with[0], with[1]));
            default:
                return Integer.toString(number(call, with));
        }
    }

    private int number(String call, int[] with) {
        switch (call) {
            case "read":
                return x.read(with[0]);
            case "today":
                return x.today(with[0]);
            case "fits":
                return x.fits(with[0], with[1], with[2], with[3]);
            case "at":
                return x.at(with[0]);
            case "price":
                return x.price(with[0], with[1]);
            case "zone":
                return x.zone(with[0]);
            case "label":
                return x.label(with[0], with[1]);
            case "print":
                return x.print(with[0], with[1]);
            case "out":
                return x.out(with[0]);
            case "track":
                return x.track();
            case "told":
                return x.told(with[0], with[1]);
            case "count":
                return x.count(with[0]);
            default:
                throw new AssertionError("no such call: " + call);
        }
    }
}
