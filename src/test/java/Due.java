import java.util.function.IntSupplier;

/** What the tests share: an object under test that takes whole texts, and a book of answers that are not as due. */
final class Due {
    static final String NO_ELEMENT = "NoSuchElementException";
    static final String BAD_ARGUMENT = "IllegalArgumentException";
    static final String BAD_STATE = "IllegalStateException";
    static final String NO_ROOM = "UnsupportedOperationException";

    private static int asked = 0;
    private static int wrong = 0;
    private static String sentence = "";
    private static int askedBefore = 0;

    private Due() {
    }

    /** The document's words that the answers from here on are about; a sentence without answers is a fault. */
    static void sentence(String words) {
        endSentence();
        sentence = words;
        askedBefore = asked;
    }

    private static void endSentence() {
        if (!sentence.isEmpty() && asked == askedBefore) {
            wrong++;
            System.out.println("[" + sentence + "] has no test");
        }
    }

    static void is(String call, String want, String got) {
        asked++;
        if (!want.equals(got)) {
            wrong++;
            String about = sentence.isEmpty() ? "" : "[" + sentence + "] ";
            System.out.println(about + call + " answered " + got + ", due is " + want);
        }
    }

    static void is(String call, int want, IntSupplier got) {
        is(call, Integer.toString(want), answer(got));
    }

    static void refuses(String call, String want, IntSupplier got) {
        is(call, want, answer(got));
    }

    static void refuses(String call, String want, Runnable got) {
        is(call, want, outcome(got));
    }

    static void goes(String call, Runnable got) {
        is(call, "goes", outcome(got));
    }

    /** The number that a call answers, or the name of the exception that it throws. */
    static String answer(IntSupplier call) {
        try {
            return Integer.toString(call.getAsInt());
        } catch (RuntimeException e) {
            return e.getClass().getSimpleName();
        }
    }

    static String outcome(Runnable call) {
        try {
            call.run();
            return "goes";
        } catch (RuntimeException e) {
            return e.getClass().getSimpleName();
        }
    }

    static int flag(boolean b) {
        return b ? 1 : 0;
    }

    static void tell(CarrierText x, String text) {
        for (int i = 0; i < text.length(); i++) {
            x.sign(text.charAt(i));
        }
    }

    static void enter(CarrierText x, String label) {
        for (int i = 0; i < label.length(); i++) {
            x.number(label.charAt(i));
        }
    }

    static int readText(CarrierText x, String text, int day) {
        tell(x, text);
        return x.read(day);
    }

    /** An object with one edition that acts. */
    static CarrierText acting(String text) {
        CarrierText x = new CarrierText();
        is("read of " + shown(text), 1, () -> readText(x, text, 0));
        return x;
    }

    static int track(CarrierText x, String label) {
        enter(x, label);
        return x.track();
    }

    static String printed(CarrierText x) {
        StringBuilder signs = new StringBuilder();
        for (int i = 0; i < x.count(5); i++) {
            signs.append((char) x.out(i));
        }
        return signs.toString();
    }

    /** The letters of the latest fits(), as far as at() tells them. */
    static String ranked(CarrierText x) {
        StringBuilder letters = new StringBuilder();
        for (int i = 0; x.at(i) != -1; i++) {
            letters.append((char) x.at(i));
        }
        return letters.toString();
    }

    static String shown(String text) {
        return "\"" + text.replace("\n", "\\n") + "\"";
    }

    static void end() {
        endSentence();
        System.out.println(asked + " answers asked, " + wrong + " not as due");
        if (wrong != 0 || asked == 0) {
            System.exit(1);
        }
    }
}
