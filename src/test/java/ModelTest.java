import java.util.ArrayList;
import java.util.Comparator;
import java.util.HashSet;
import java.util.List;
import java.util.Random;
import java.util.Set;
import java.util.stream.Collectors;

/** All promises: random runs of calls, each answered by the class and by a plain model of the document. */
public final class ModelTest {
    private static final int RUNS = 4000;
    private static final int CALLS = 512;

    public static void main(String[] args) {
        for (int seed = 1; seed <= RUNS; seed++) {
            new Run(seed).go();
        }
        System.out.println(Run.rightTexts + " texts were right, " + Run.wrongTexts + " wrong, "
                + Run.labelsRight + " labels right");
        Due.is("the runs reach right and wrong texts and right labels", "true",
                "" + (Run.rightTexts > 1000 && Run.wrongTexts > 1000 && Run.labelsRight > 1000));
        Due.end();
    }

    /** What a refused call throws in the model. */
    private static final class Refusal extends RuntimeException {
        private static final long serialVersionUID = 1L;

        Refusal(String name) {
            super(name);
        }
    }

    private static void refuseIf(boolean bad, String name) {
        if (bad) {
            throw new Refusal(name);
        }
    }

    private static final class Line {
        String whole;
        String hours;

        String part(int i) {
            return whole.split("[:+]", -1)[i];
        }

        int amount(int i) {
            return Integer.parseInt(part(i));
        }

        int price(int weight) {
            int begun = weight / 10 + (weight % 10 == 0 ? 0 : 1);
            return amount(5) + amount(6) * begun;
        }
    }

    /** A text is judged by templates: one step for each part of a line. */
    private static final class Text {
        final String text;
        final List<Line> services = new ArrayList<>();
        final List<int[]> ranges = new ArrayList<>();
        int at = 0;
        int wrong = -1;
        int day;

        Text(String text) {
            this.text = text;
            while (wrong < 0 && at < text.length()) {
                int start = at;
                char kind = text.charAt(at);
                String steps = kind == '/' ? "/a-b:z\n" : kind == '*' ? "*h:f-t\n" : "L:Z:w:s:C:p+q\n";
                line(steps, start);
            }
        }

        private void line(String steps, int start) {
            for (char step : steps.toCharArray()) {
                if (!step(step, start)) {
                    return;
                }
            }
            String whole = text.substring(start, at - 1);
            if (steps.charAt(0) == '/') {
                ranges.add(new int[] {cut(whole, 1, 5), cut(whole, 6, 10), cut(whole, 11, 12)});
            } else if (steps.charAt(0) == '*') {
                byLetter(whole.charAt(1)).hours = whole.substring(3);
            } else {
                Line line = new Line();
                line.whole = whole;
                services.add(line);
            }
        }

        private static int cut(String s, int from, int to) {
            return Integer.parseInt(s.substring(from, to));
        }

        Line byLetter(int letter) {
            return services.stream().filter(l -> l.whole.charAt(0) == letter).findFirst().orElse(null);
        }

        private boolean step(char step, int start) {
            switch (step) {
                case 'L':
                    return one(at < text.length() && "ABCDEFGHIJKLMNOPQRSTUVWXYZ".indexOf(text.charAt(at)) >= 0
                            && byLetter(text.charAt(at)) == null);
                case 'h':
                    return one(at < text.length() && byLetter(text.charAt(at)) != null
                            && byLetter(text.charAt(at)).hours == null);
                case 'z':
                    return one(at < text.length() && "123456789".indexOf(text.charAt(at)) >= 0);
                case 'Z':
                case 'C':
                    return set(step == 'Z');
                case 'w':
                    return free(1, 1000);
                case 's':
                    return free(1, 500);
                case 'p':
                    return free(0, 999);
                case 'q':
                    return free(0, 99);
                case 'a':
                    return counted(4, ranges.isEmpty() ? 0 : ranges.get(ranges.size() - 1)[1] + 1, 9999);
                case 'b':
                    return counted(4, cut(text, start + 1, start + 5), 9999);
                case 'f':
                    return counted(2, 0, 23);
                case 't':
                    return counted(2, cut(text, start + 3, start + 5) + 1, 24);
                default:
                    return one(at < text.length() && text.charAt(at) == step);
            }
        }

        private boolean wrongAt(int place) {
            wrong = place;
            return false;
        }

        private boolean one(boolean right) {
            if (!right) {
                return wrongAt(at);
            }
            at++;
            return true;
        }

        private String digitsHere() {
            int end = at;
            while (end < text.length() && Character.isDigit(text.charAt(end))) {
                end++;
            }
            return text.substring(at, end);
        }

        private boolean set(boolean needed) {
            String digits = digitsHere();
            int good = 0;
            while (good < digits.length() && digits.charAt(good) > (good == 0 ? '0' : digits.charAt(good - 1))) {
                good++;
            }
            at += good;
            return good > 0 || !needed || wrongAt(at);
        }

        private boolean free(int least, int most) {
            String digits = digitsHere();
            if (digits.isEmpty()) {
                return wrongAt(at);
            }
            if (digits.startsWith("0") && digits.length() > 1) {
                return wrongAt(least > 0 ? at : at + 1);
            }
            if (digits.length() > 9 || Integer.parseInt(digits) < least || Integer.parseInt(digits) > most) {
                return wrongAt(at);
            }
            at += digits.length();
            return true;
        }

        private boolean counted(int howMany, int least, int most) {
            String digits = digitsHere();
            if (digits.length() < howMany) {
                return wrongAt(at + digits.length());
            }
            int value = cut(digits, 0, howMany);
            if (value < least || value > most) {
                return wrongAt(at);
            }
            at += howMany;
            return true;
        }

        int zone(int code) {
            return ranges.stream().filter(r -> r[0] <= code && code <= r[1]).map(r -> r[2]).findFirst().orElse(0);
        }
    }

    /** The document's object, told as plainly as can be. */
    private static final class Model {
        String text = "";
        String label = "";
        String printed = "";
        String ranked = "";
        int day = 0;
        final List<Text> editions = new ArrayList<>();

        int acting() {
            int best = 0;
            for (int i = 1; i <= editions.size(); i++) {
                int its = editions.get(i - 1).day;
                if (its <= day && (best == 0 || its >= editions.get(best - 1).day)) {
                    best = i;
                }
            }
            return best;
        }

        Text act() {
            refuseIf(acting() == 0, Due.BAD_STATE);
            return editions.get(acting() - 1);
        }

        static Line service(Text edition, int letter) {
            refuseIf(edition.byLetter(letter) == null, Due.NO_ELEMENT);
            return edition.byLetter(letter);
        }

        static void range(int n, int least, int most) {
            refuseIf(n < least || n > most, Due.BAD_ARGUMENT);
        }

        int sign(int c) {
            refuseIf(c != 10 && (c < 32 || c > 126), Due.BAD_ARGUMENT);
            refuseIf(text.length() == 500, Due.NO_ROOM);
            text += (char) c;
            return 0;
        }

        int read(int forDay) {
            range(forDay, 0, 1000);
            Text told = new Text(text);
            text = "";
            if (told.wrong >= 0) {
                return -1 - told.wrong;
            }
            refuseIf(told.services.size() > 8 || told.ranges.size() > 8 || editions.size() == 4, Due.NO_ROOM);
            told.day = forDay;
            editions.add(told);
            ranked = "";
            return editions.size();
        }

        int today(int newDay) {
            range(newDay, 0, 1000);
            day = newDay;
            ranked = "";
            return acting();
        }

        int fits(int weight, int size, int zone, int danger) {
            range(weight, 1, 2000);
            range(size, 1, 1000);
            range(zone, 1, 9);
            range(danger, 0, 9);
            ranked = act().services.stream()
                    .filter(l -> l.part(1).contains("" + zone) && l.amount(2) >= weight && l.amount(3) >= size)
                    .filter(l -> danger == 0 || l.part(4).contains("" + danger))
                    .sorted(Comparator.comparingInt(l -> l.price(weight)))
                    .map(l -> l.whole.substring(0, 1))
                    .collect(Collectors.joining());
            return ranked.length();
        }

        int at(int i) {
            return i >= 0 && i < ranked.length() ? ranked.charAt(i) : -1;
        }

        int price(int service, int weight) {
            Line line = service(act(), service);
            range(weight, 1, 2000);
            return line.price(weight);
        }

        int zone(int code) {
            range(code, 0, 9999);
            return act().zone(code);
        }

        int hours(int service, int hour) {
            Line line = service(act(), service);
            range(hour, 0, 23);
            refuseIf(line.hours == null, Due.BAD_STATE);
            String[] ends = line.hours.split("-");
            return Due.flag(Integer.parseInt(ends[0]) <= hour && hour < Integer.parseInt(ends[1]));
        }

        static char check(String seven) {
            int sum = 0;
            for (int i = 0; i < 7; i++) {
                sum += (i + 1) * seven.charAt(i);
            }
            return (char) ('A' + sum % 26);
        }

        int label(int service, int code) {
            Line line = service(act(), service);
            range(code, 0, 9999);
            int zone = act().zone(code);
            if (zone == 0 || !line.part(1).contains("" + zone)) {
                return 0;
            }
            String seven = String.format("%c%d-%04d", service, zone, code);
            printed = seven + check(seven);
            return 8;
        }

        int print(int edition, int service) {
            refuseIf(edition < 1 || edition > editions.size(), Due.NO_ELEMENT);
            printed = service(editions.get(edition - 1), service).whole;
            return printed.length();
        }

        int out(int i) {
            refuseIf(i < 0 || i >= printed.length(), Due.BAD_ARGUMENT);
            return printed.charAt(i);
        }

        int number(int c) {
            range(c, 32, 126);
            refuseIf(label.length() == 20, Due.NO_ROOM);
            label += (char) c;
            return 0;
        }

        int track() {
            Text acts = act();
            String l = label;
            label = "";
            if (l.length() != 8) {
                return -1;
            }
            if (!l.matches("[A-Z][1-9]-[0-9]{4}[A-Z]")) {
                return -2;
            }
            Line line = acts.byLetter(l.charAt(0));
            if (line == null) {
                return -3;
            }
            boolean itsZone = acts.zone(Integer.parseInt(l.substring(3, 7))) == l.charAt(1) - '0';
            if (!itsZone || !line.part(1).contains(l.substring(1, 2))) {
                return -4;
            }
            return l.charAt(7) == check(l) ? 1 : -5;
        }

        int told(int edition, int what) {
            refuseIf(edition < 1 || edition > editions.size(), Due.NO_ELEMENT);
            range(what, 0, 3);
            Text t = editions.get(edition - 1);
            int withHours = (int) t.services.stream().filter(l -> l.hours != null).count();
            return List.of(t.day, t.services.size(), t.ranges.size(), withHours).get(what);
        }

        int count(int what) {
            List<Integer> all = List.of(editions.size(), text.length(), label.length(), acting(), day,
                    printed.length());
            return what >= 0 && what < all.size() ? all.get(what) : -1;
        }
    }

    /** One object, one model, at most 512 calls. */
    private static final class Run {
        static int rightTexts = 0;
        static int wrongTexts = 0;
        static int labelsRight = 0;

        final int seed;
        final Random random;
        final CarrierText x = new CarrierText();
        final Model model = new Model();
        int calls = 0;

        Run(int seed) {
            this.seed = seed;
            random = new Random(seed);
        }

        void go() {
            while (calls < CALLS) {
                switch (random.nextInt(8)) {
                    case 0:
                    case 1:
                        textCalls();
                        break;
                    case 2:
                    case 3:
                        labelCalls();
                        break;
                    default:
                        for (int i = 0; i < 8; i++) {
                            oneCall();
                        }
                }
            }
        }

        private void call(String name, int... a) {
            if (calls == CALLS) {
                return;
            }
            calls++;
            String got = Due.answer(() -> asked(name, a));
            String due;
            try {
                due = Integer.toString(modelled(name, a));
            } catch (Refusal r) {
                due = r.getMessage();
            }
            String shown = "seed " + seed + ", call " + calls + ": " + name + java.util.Arrays.toString(a);
            Due.is(shown, due, got);
        }

        private int asked(String name, int[] a) {
            switch (name) {
                case "sign":
                    x.sign(a[0]);
                    return 0;
                case "number":
                    x.number(a[0]);
                    return 0;
                case "read":
                    return x.read(a[0]);
                case "today":
                    return x.today(a[0]);
                case "fits":
                    return x.fits(a[0], a[1], a[2], a[3]);
                case "at":
                    return x.at(a[0]);
                case "price":
                    return x.price(a[0], a[1]);
                case "zone":
                    return x.zone(a[0]);
                case "hours":
                    return Due.flag(x.hours(a[0], a[1]));
                case "label":
                    return x.label(a[0], a[1]);
                case "print":
                    return x.print(a[0], a[1]);
                case "out":
                    return x.out(a[0]);
                case "track":
                    return x.track();
                case "told":
                    return x.told(a[0], a[1]);
                default:
                    return x.count(a[0]);
            }
        }

        private int modelled(String name, int[] a) {
            switch (name) {
                case "sign":
                    return model.sign(a[0]);
                case "number":
                    return model.number(a[0]);
                case "read":
                    int read = model.read(a[0]);
                    rightTexts += read > 0 ? 1 : 0;
                    wrongTexts += read < 0 ? 1 : 0;
                    return read;
                case "today":
                    return model.today(a[0]);
                case "fits":
                    return model.fits(a[0], a[1], a[2], a[3]);
                case "at":
                    return model.at(a[0]);
                case "price":
                    return model.price(a[0], a[1]);
                case "zone":
                    return model.zone(a[0]);
                case "hours":
                    return model.hours(a[0], a[1]);
                case "label":
                    return model.label(a[0], a[1]);
                case "print":
                    return model.print(a[0], a[1]);
                case "out":
                    return model.out(a[0]);
                case "track":
                    int verdict = model.track();
                    labelsRight += verdict == 1 ? 1 : 0;
                    return verdict;
                case "told":
                    return model.told(a[0], a[1]);
                default:
                    return model.count(a[0]);
            }
        }

        /** Mostly from least to most, now and then an edge or beyond. */
        private int some(int least, int most) {
            switch (random.nextInt(12)) {
                case 0:
                    return least - 1;
                case 1:
                    return most + 1;
                case 2:
                    return least;
                case 3:
                    return most;
                case 4:
                    return random.nextInt(6) == 0 ? random.nextInt() : least;
                default:
                    return least + random.nextInt(most - least + 1);
            }
        }

        private int good(int least, int most) {
            return least + random.nextInt(most - least + 1);
        }

        private int letter() {
            return random.nextInt(15) == 0 ? random.nextInt(130) - 2 : 'A' + random.nextInt(5);
        }

        private String upward(boolean needed) {
            StringBuilder digits = new StringBuilder();
            for (int d = 1; d <= 9; d++) {
                if (random.nextInt(3) > (needed ? 0 : 1)) {
                    digits.append(d);
                }
            }
            return digits.length() == 0 && needed ? "" + good(1, 9) : digits.toString();
        }

        private String someText() {
            StringBuilder text = new StringBuilder();
            Set<Character> letters = new HashSet<>();
            Set<Character> hours = new HashSet<>();
            int code = random.nextInt(200);
            int lines = random.nextInt(12) == 0 ? 18 : random.nextInt(9);
            for (int i = 0; i < lines; i++) {
                char letter = (char) ('A' + random.nextInt(lines > 9 ? 26 : 6));
                int kind = random.nextInt(4);
                if (kind < 2 && letters.add(letter)) {
                    text.append(letter).append(':').append(upward(true)).append(':')
                            .append(good(1, random.nextBoolean() ? 1000 : 60)).append(':')
                            .append(good(1, random.nextBoolean() ? 500 : 60)).append(':').append(upward(false))
                            .append(':').append(good(0, random.nextBoolean() ? 999 : 5)).append('+')
                            .append(good(0, random.nextBoolean() ? 99 : 3)).append('\n');
                } else if (kind == 2 && code < 9990) {
                    int end = Math.min(9999, code + random.nextInt(random.nextBoolean() ? 2 : 3000));
                    text.append(String.format("/%04d-%04d:%d\n", code, end, good(1, 9)));
                    code = end + 1 + random.nextInt(3);
                } else if (letters.contains(letter) && hours.add(letter)) {
                    int first = good(0, 23);
                    text.append(String.format("*%c:%02d-%02d\n", letter, first, good(first + 1, 24)));
                }
            }
            return text.toString();
        }

        private String spoilt(String text) {
            StringBuilder s = new StringBuilder(text);
            int at = random.nextInt(text.length() + 1);
            char c = "0123456789:/-+*ABCZa \n".charAt(random.nextInt(22));
            switch (random.nextInt(4)) {
                case 0:
                    s.setLength(at);
                    break;
                case 1:
                    s.insert(at, c);
                    break;
                case 2:
                    if (at < s.length()) {
                        s.setCharAt(at, c);
                    }
                    break;
                default:
                    if (at < s.length()) {
                        s.deleteCharAt(at);
                    }
            }
            return s.toString();
        }

        private void textCalls() {
            String text = someText();
            if (random.nextInt(3) > 0) {
                text = spoilt(text);
            }
            for (char c : text.toCharArray()) {
                call("sign", c);
            }
            call("count", 1);
            call("read", random.nextInt(3) == 0 ? 0 : some(0, 1000));
            call("count", 1);
            call("count", 3);
            call("today", some(0, 1000));
        }

        private void labelCalls() {
            if (model.acting() == 0 && random.nextInt(3) > 0) {
                call("today", 1000);
            }
            call("track");
            String label = random.nextInt(8) == 0 ? model.printed : likelyLabel();
            if (random.nextInt(3) == 0) {
                label = spoilt(label);
            }
            for (char c : label.substring(0, Math.min(21, label.length())).toCharArray()) {
                call("number", c);
            }
            call("track");
            call("count", 2);
        }

        /** Of a service and a range of the edition that acts, if there are such; its zone may be another's. */
        private String likelyLabel() {
            Text acts = model.acting() == 0 ? new Text("") : model.act();
            if (acts.services.isEmpty() || acts.ranges.isEmpty()) {
                return "A1-0001A";
            }
            Line line = acts.services.get(random.nextInt(acts.services.size()));
            int[] range = acts.ranges.get(random.nextInt(acts.ranges.size()));
            int code = random.nextBoolean() ? range[0] : range[1];
            call("label", line.whole.charAt(0), code);
            String seven = String.format("%c%d-%04d", line.whole.charAt(0), range[2], code);
            return seven + Model.check(seven);
        }

        private int code() {
            return random.nextInt(3) == 0 ? some(0, 9999) : random.nextInt(400);
        }

        private void oneCall() {
            switch (random.nextInt(14)) {
                case 0:
                    call("today", some(0, 1000));
                    break;
                case 1:
                case 2:
                    call("fits", random.nextInt(4) == 0 ? some(1, 2000) : good(1, 60), good(1, 60), some(1, 9),
                            random.nextBoolean() ? 0 : some(0, 9));
                    break;
                case 3:
                    for (int i = -1; i < 4; i++) {
                        call("at", i);
                    }
                    break;
                case 4:
                    call("price", letter(), some(1, 2000));
                    break;
                case 5:
                    call("zone", code());
                    break;
                case 6:
                    call("hours", letter(), some(0, 23));
                    break;
                case 7:
                    call("print", some(1, 4), letter());
                    call("count", 5);
                    break;
                case 8:
                case 9:
                    call("out", some(0, Math.max(0, model.printed.length() - 1)));
                    break;
                case 10:
                    call("told", some(1, 4), some(0, 3));
                    break;
                case 11:
                    call("count", some(0, 5));
                    break;
                case 12:
                    call("fits", good(1, 60), some(1, 1000), good(1, 9), good(0, 9));
                    break;
                default:
                    call(random.nextBoolean() ? "sign" : "number", some(32, 126));
                    call(random.nextBoolean() ? "track" : "count", 2);
            }
        }
    }
}
