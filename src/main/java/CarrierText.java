import java.util.NoSuchElementException;

/** Carriers told in a text, in editions that act by days. */
public final class CarrierText {
    private static final int MOST_SIGNS = 500;
    private static final int MOST_LABEL_SIGNS = 20;
    // The longest service line: a letter, 9 zones, 4 and 3 digits, 9 classes, 3 and 2 digits, 6 marks between.
    private static final int MOST_PRINTED = 37;
    private static final int MOST_EDITIONS = 4;
    private static final int MOST_SERVICES = 8;
    private static final int MOST_RANGES = 8;
    private static final int LETTERS = 26;
    private static final int LABEL_LENGTH = 8;
    private static final int LAST_DAY = 1000;
    private static final int LAST_CODE = 9999;
    private static final int CODE_DIGITS = 4;
    private static final int HOUR_DIGITS = 2;
    private static final int WRONG = -1;

    private final Signs textSigns;
    private final Signs labelSigns;
    private final Signs printedSigns;
    private final Reader reader;
    private final Ranking ranking;
    private final Edition[] editions;
    private int editionsKept;
    private int day;

    public CarrierText() {
        textSigns = new Signs(MOST_SIGNS);
        labelSigns = new Signs(MOST_LABEL_SIGNS);
        printedSigns = new Signs(MOST_PRINTED);
        reader = new Reader(textSigns);
        ranking = new Ranking();
        editions = new Edition[MOST_EDITIONS];
    }

    public void sign(int c) throws IllegalArgumentException, UnsupportedOperationException {
        if (c != '\n' && !isPlain(c)) {
            throw new IllegalArgumentException("no sign of a text");
        }
        if (!textSigns.append(c)) {
            throw new UnsupportedOperationException("the text is full");
        }
    }

    public int read(int day) throws IllegalArgumentException, UnsupportedOperationException {
        if (!isWithin(day, 0, LAST_DAY)) {
            throw new IllegalArgumentException("no day");
        }
        boolean right = reader.readsWholeText();
        textSigns.clear();
        if (!right) {
            return -1 - reader.place;
        }
        if (reader.draft.isOverfull() || editionsKept >= editions.length) {
            throw new UnsupportedOperationException("no room for this edition");
        }
        keepEdition(reader.handOverDraft(), day);
        return editionsKept;
    }

    public int today(int day) throws IllegalArgumentException {
        if (!isWithin(day, 0, LAST_DAY)) {
            throw new IllegalArgumentException("no day");
        }
        this.day = day;
        ranking.clear();
        return actingNumber();
    }

    public int fits(int weight, int size, int zone, int danger)
            throws IllegalArgumentException, IllegalStateException {
        if (!isWeight(weight) || !isWithin(size, 1, 1000) || !isWithin(zone, 1, 9) || !isWithin(danger, 0, 9)) {
            throw new IllegalArgumentException("no such pack");
        }
        Edition acting = actingEdition();
        ranking.clear();
        for (int i = 0; i < acting.servicesTold; i++) {
            Service service = acting.serviceAt(i);
            if (service != null && service.takes(weight, size, zone, danger)) {
                ranking.insert(service.letter, service.priceFor(weight));
            }
        }
        return ranking.length;
    }

    public int at(int i) {
        return ranking.letterAt(i);
    }

    public int price(int service, int weight)
            throws NoSuchElementException, IllegalArgumentException, IllegalStateException {
        Service asked = known(actingEdition().find(service));
        if (!isWeight(weight)) {
            throw new IllegalArgumentException("no weight");
        }
        return asked.priceFor(weight);
    }

    public int zone(int code) throws IllegalArgumentException, IllegalStateException {
        if (!isCode(code)) {
            throw new IllegalArgumentException("no postal code");
        }
        return actingEdition().zoneOf(code);
    }

    public boolean hours(int service, int hour)
            throws NoSuchElementException, IllegalArgumentException, IllegalStateException {
        Service asked = known(actingEdition().find(service));
        if (!isWithin(hour, 0, 23)) {
            throw new IllegalArgumentException("no hour");
        }
        if (!asked.hasHours()) {
            throw new IllegalStateException("the hours are not told");
        }
        return asked.picksUpIn(hour);
    }

    public int label(int service, int code)
            throws NoSuchElementException, IllegalArgumentException, IllegalStateException {
        Edition acting = actingEdition();
        Service asked = known(acting.find(service));
        if (!isCode(code)) {
            throw new IllegalArgumentException("no postal code");
        }
        int codeZone = acting.zoneOf(code);
        if (!asked.serves(codeZone)) {
            return 0;
        }
        printLabel(asked.letter, codeZone, code);
        return printedSigns.length;
    }

    public int print(int edition, int service) throws NoSuchElementException {
        Service asked = known(knownEdition(edition).find(service));
        printedSigns.clear();
        asked.writeLine(printedSigns);
        return printedSigns.length;
    }

    public int out(int i) throws IllegalArgumentException {
        int sign = printedSigns.signAt(i);
        if (sign < 0) {
            throw new IllegalArgumentException("no such sign was printed");
        }
        return sign;
    }

    public void number(int c) throws IllegalArgumentException, UnsupportedOperationException {
        if (!isPlain(c)) {
            throw new IllegalArgumentException("no sign of a label");
        }
        if (!labelSigns.append(c)) {
            throw new UnsupportedOperationException("the label is full");
        }
    }

    public int track() throws IllegalStateException {
        int verdict = labelVerdict(actingEdition());
        labelSigns.clear();
        return verdict;
    }

    public int told(int edition, int what) throws NoSuchElementException, IllegalArgumentException {
        Edition asked = knownEdition(edition);
        switch (what) {
            case 0:
                return asked.firstDay;
            case 1:
                return asked.servicesTold;
            case 2:
                return asked.rangesTold;
            case 3:
                return asked.servicesWithHours();
            default:
                throw new IllegalArgumentException("nothing is told of this");
        }
    }

    public int count(int what) {
        switch (what) {
            case 0:
                return editionsKept;
            case 1:
                return textSigns.length;
            case 2:
                return labelSigns.length;
            case 3:
                return actingNumber();
            case 4:
                return day;
            case 5:
                return printedSigns.length;
            default:
                return -1;
        }
    }

    private void keepEdition(Edition edition, int firstDay) {
        if (editionsKept < 0 || editionsKept >= editions.length) {
            return;
        }
        edition.firstDay = firstDay;
        editions[editionsKept] = edition;
        editionsKept++;
        ranking.clear();
    }

    /** The number of the edition that acts today, 0 if none does. */
    private int actingNumber() {
        int number = 0;
        int latestDay = 0;
        for (int i = 1; i <= editionsKept; i++) {
            Edition edition = editionOrNull(i);
            // Not less, so that of editions with equal days the one that was read last wins.
            if (edition != null && edition.firstDay <= day && edition.firstDay >= latestDay) {
                number = i;
                latestDay = edition.firstDay;
            }
        }
        return number;
    }

    private Edition actingEdition() {
        Edition edition = editionOrNull(actingNumber());
        if (edition == null) {
            throw new IllegalStateException("no edition acts");
        }
        return edition;
    }

    private Edition knownEdition(int number) {
        Edition edition = editionOrNull(number);
        if (edition == null) {
            throw new NoSuchElementException("no such edition");
        }
        return edition;
    }

    private Edition editionOrNull(int number) {
        return isWithin(number, 1, editions.length) ? editions[number - 1] : null;
    }

    private static Service known(Service service) {
        if (service == null) {
            throw new NoSuchElementException("no such service");
        }
        return service;
    }

    private void printLabel(int letter, int codeZone, int code) {
        printedSigns.clear();
        printedSigns.append(letter);
        printedSigns.append('0' + codeZone);
        printedSigns.append('-');
        printedSigns.appendNumber(code, CODE_DIGITS);
        printedSigns.append(checkLetter(printedSigns));
    }

    /** 1 for a label by this edition, or 0 less the first thing that is wrong. */
    private int labelVerdict(Edition edition) {
        if (labelSigns.length != LABEL_LENGTH) {
            return -1;
        }
        if (!hasLabelForm()) {
            return -2;
        }
        Service service = edition.find(labelSigns.signAt(0));
        if (service == null) {
            return -3;
        }
        int labelZone = labelSigns.signAt(1) - '0';
        if (labelZone != edition.zoneOf(labelCode()) || !service.serves(labelZone)) {
            return -4;
        }
        return labelSigns.signAt(LABEL_LENGTH - 1) == checkLetter(labelSigns) ? 1 : -5;
    }

    private boolean hasLabelForm() {
        for (int i = 3; i < 3 + CODE_DIGITS; i++) {
            if (!isDigit(labelSigns.signAt(i))) {
                return false;
            }
        }
        return isLetter(labelSigns.signAt(0))
                && isWithin(labelSigns.signAt(1), '1', '9')
                && labelSigns.signAt(2) == '-'
                && isLetter(labelSigns.signAt(LABEL_LENGTH - 1));
    }

    private int labelCode() {
        int code = 0;
        for (int i = 3; i < 3 + CODE_DIGITS; i++) {
            code = code * 10 + labelSigns.signAt(i) - '0';
        }
        return code;
    }

    private static int checkLetter(Signs label) {
        int sum = 0;
        for (int i = 0; i < LABEL_LENGTH - 1; i++) {
            sum += (i + 1) * label.signAt(i);
        }
        return 'A' + sum % LETTERS;
    }

    private static boolean isWithin(int n, int least, int most) {
        return n >= least && n <= most;
    }

    private static boolean isPlain(int c) {
        return isWithin(c, 32, 126);
    }

    private static boolean isDigit(int c) {
        return isWithin(c, '0', '9');
    }

    private static boolean isLetter(int c) {
        return isWithin(c, 'A', 'Z');
    }

    private static boolean isWeight(int n) {
        return isWithin(n, 1, 2000);
    }

    private static boolean isCode(int n) {
        return isWithin(n, 0, LAST_CODE);
    }

    /** A set of digits 1 .. 9 is held as bits 1 .. 9 of a number. */
    private static boolean hasDigit(int set, int digit) {
        return isWithin(digit, 1, 9) && (set >> digit & 1) == 1;
    }

    /** A row of signs with a greatest length. */
    private static final class Signs {
        private final int[] row;
        private int length;

        Signs(int most) {
            row = new int[most > 0 ? most : 0];
        }

        void clear() {
            length = 0;
        }

        /** False, and nothing is appended, if the row is full. */
        boolean append(int c) {
            if (length < 0 || length >= row.length) {
                return false;
            }
            row[length] = c;
            length++;
            return true;
        }

        /** -1 if there is no such sign. */
        int signAt(int i) {
            return i >= 0 && i < length && i < row.length ? row[i] : -1;
        }

        /** For numbers below 10000: zeros stand in front only as far as the least count of digits wants. */
        void appendNumber(int n, int leastDigits) {
            int digitsLeft = 4;
            for (int power = 1000; power > 0; power /= 10) {
                if (n >= power || digitsLeft <= leastDigits) {
                    append('0' + n / power % 10);
                }
                digitsLeft--;
            }
        }

        void appendDigitSet(int set) {
            for (int digit = 1; digit <= 9; digit++) {
                if (hasDigit(set, digit)) {
                    append('0' + digit);
                }
            }
        }
    }

    /** A service as its line and its hours tell it. */
    private static final class Service {
        private final int letter;
        private int zones;
        private int mostWeight;
        private int mostSize;
        private int classes;
        private int base;
        private int step;
        private int firstHour;
        // The hour at which pickup is over: told hours end at 1 at least, so 0 means that none are told.
        private int endHour;

        Service(int letter) {
            this.letter = letter;
        }

        boolean serves(int zone) {
            return hasDigit(zones, zone);
        }

        boolean takes(int weight, int size, int zone, int danger) {
            return weight <= mostWeight
                    && size <= mostSize
                    && serves(zone)
                    && (danger == 0 || hasDigit(classes, danger));
        }

        int priceFor(int weight) {
            return base + step * ((weight + 9) / 10);
        }

        boolean hasHours() {
            return endHour > 0;
        }

        boolean picksUpIn(int hour) {
            return hour >= firstHour && hour < endHour;
        }

        void writeLine(Signs to) {
            to.append(letter);
            to.append(':');
            to.appendDigitSet(zones);
            to.append(':');
            to.appendNumber(mostWeight, 1);
            to.append(':');
            to.appendNumber(mostSize, 1);
            to.append(':');
            to.appendDigitSet(classes);
            to.append(':');
            to.appendNumber(base, 1);
            to.append('+');
            to.appendNumber(step, 1);
        }
    }

    /** What one text tells, and the day from which it acts. */
    private static final class Edition {
        // A right text may tell more than an edition may hold: all of its services must be known
        // until its end, as hours may follow; of the ranges only the count.
        private final Service[] services;
        private final int[] firstCodes;
        private final int[] lastCodes;
        private final int[] codeZones;
        private int servicesTold;
        private int rangesTold;
        private int firstDay;

        Edition() {
            services = new Service[LETTERS];
            firstCodes = new int[MOST_RANGES];
            lastCodes = new int[MOST_RANGES];
            codeZones = new int[MOST_RANGES];
        }

        void clear() {
            servicesTold = 0;
            rangesTold = 0;
        }

        void addService(Service service) {
            if (servicesTold >= 0 && servicesTold < services.length) {
                services[servicesTold] = service;
                servicesTold++;
            }
        }

        void addRange(int firstCode, int lastCode, int codeZone) {
            if (rangesTold >= 0 && rangesTold < MOST_RANGES) {
                firstCodes[rangesTold] = firstCode;
                lastCodes[rangesTold] = lastCode;
                codeZones[rangesTold] = codeZone;
            }
            rangesTold++;
        }

        boolean isOverfull() {
            return servicesTold > MOST_SERVICES || rangesTold > MOST_RANGES;
        }

        /** Null if there is none. */
        Service serviceAt(int i) {
            return i >= 0 && i < servicesTold && i < services.length ? services[i] : null;
        }

        /** Null if no service has this letter. */
        Service find(int letter) {
            for (int i = 0; i < servicesTold; i++) {
                Service service = serviceAt(i);
                if (service != null && service.letter == letter) {
                    return service;
                }
            }
            return null;
        }

        /** 0 if the code is in no range. */
        int zoneOf(int code) {
            for (int i = 0; i < rangesTold && i < MOST_RANGES; i++) {
                if (isWithin(code, firstCodes[i], lastCodes[i])) {
                    return codeZones[i];
                }
            }
            return 0;
        }

        int servicesWithHours() {
            int found = 0;
            for (int i = 0; i < servicesTold; i++) {
                Service service = serviceAt(i);
                if (service != null && service.hasHours()) {
                    found++;
                }
            }
            return found;
        }
    }

    /** The letters of services that fitted, the cheapest first. */
    private static final class Ranking {
        private final int[] letters;
        private final int[] prices;
        private int length;

        Ranking() {
            letters = new int[MOST_SERVICES];
            prices = new int[MOST_SERVICES];
        }

        void clear() {
            length = 0;
        }

        /** Behind those of an equal price, so that these stay as told. */
        void insert(int letter, int price) {
            if (length < 0 || length >= MOST_SERVICES) {
                return;
            }
            int place = length;
            while (place > 0 && prices[place - 1] > price) {
                letters[place] = letters[place - 1];
                prices[place] = prices[place - 1];
                place--;
            }
            letters[place] = letter;
            prices[place] = price;
            length++;
        }

        /** -1 if there are not so many. */
        int letterAt(int i) {
            return i >= 0 && i < length && i < MOST_SERVICES ? letters[i] : -1;
        }
    }

    /**
     * Reads the text into a draft of an edition. Whatever finds the text wrong leaves the place
     * at the wrong sign, so that the place itself is the answer.
     */
    private static final class Reader {
        private final Signs text;
        // Used again for each text until one becomes an edition.
        private Edition draft;
        private int place;
        private int lastCodeTold;

        Reader(Signs text) {
            this.text = text;
            draft = new Edition();
        }

        Edition handOverDraft() {
            Edition ready = draft;
            draft = new Edition();
            return ready;
        }

        boolean readsWholeText() {
            draft.clear();
            place = 0;
            lastCodeTold = -1;
            for (int lines = 0; lines < MOST_SIGNS && place < text.length; lines++) {
                int first = here();
                boolean right = first == '/' ? readsRange() : first == '*' ? readsHours() : readsService();
                if (!right) {
                    return false;
                }
            }
            return true;
        }

        private boolean readsService() {
            int letter = here();
            if (!isLetter(letter) || draft.find(letter) != null) {
                return false;
            }
            place++;
            Service service = new Service(letter);
            if (!passes(':') || !readsCapacity(service) || !readsPrice(service) || !passes('\n')) {
                return false;
            }
            draft.addService(service);
            return true;
        }

        private boolean readsCapacity(Service service) {
            service.zones = upwardDigits();
            if (service.zones == 0 || !passes(':')) {
                return false;
            }
            service.mostWeight = freeNumber(1, 1000);
            if (service.mostWeight == WRONG || !passes(':')) {
                return false;
            }
            service.mostSize = freeNumber(1, 500);
            if (service.mostSize == WRONG || !passes(':')) {
                return false;
            }
            service.classes = upwardDigits();
            return passes(':');
        }

        private boolean readsPrice(Service service) {
            service.base = freeNumber(0, 999);
            if (service.base == WRONG || !passes('+')) {
                return false;
            }
            service.step = freeNumber(0, 99);
            return service.step != WRONG;
        }

        private boolean readsRange() {
            place++;
            int firstCode = countedNumber(CODE_DIGITS, lastCodeTold + 1, LAST_CODE);
            if (firstCode == WRONG || !passes('-')) {
                return false;
            }
            int lastCode = countedNumber(CODE_DIGITS, firstCode, LAST_CODE);
            if (lastCode == WRONG || !passes(':')) {
                return false;
            }
            int codeZone = countedNumber(1, 1, 9);
            if (codeZone == WRONG || !passes('\n')) {
                return false;
            }
            lastCodeTold = lastCode;
            draft.addRange(firstCode, lastCode, codeZone);
            return true;
        }

        private boolean readsHours() {
            place++;
            Service service = draft.find(here());
            if (service == null || service.hasHours()) {
                return false;
            }
            place++;
            if (!passes(':')) {
                return false;
            }
            int firstHour = countedNumber(HOUR_DIGITS, 0, 23);
            if (firstHour == WRONG || !passes('-')) {
                return false;
            }
            int endHour = countedNumber(HOUR_DIGITS, firstHour + 1, 24);
            if (endHour == WRONG || !passes('\n')) {
                return false;
            }
            service.firstHour = firstHour;
            service.endHour = endHour;
            return true;
        }

        /** The sign at the place, -1 at the text's end. */
        private int here() {
            return text.signAt(place);
        }

        private boolean passes(int mark) {
            if (here() != mark) {
                return false;
            }
            place++;
            return true;
        }

        /** The digits 1 .. 9 as a set, as far as they go upward; perhaps none. */
        private int upwardDigits() {
            int set = 0;
            int before = '0';
            for (int k = 1; k <= 9 && isWithin(here(), before + 1, '9'); k++) {
                before = here();
                set |= 1 << (before - '0');
                place++;
            }
            return set;
        }

        /** A number as far as its digits go, or WRONG. */
        private int freeNumber(int least, int most) {
            int start = place;
            if (here() == '0' && least == 0) {
                // A digit behind this 0 is wrong at its own place, as the mark that is due is not there.
                place++;
                return 0;
            }
            if (!isDigit(here()) || here() == '0') {
                return WRONG;
            }
            int value = 0;
            for (int k = 0; k < MOST_SIGNS && isDigit(here()); k++) {
                // A number that is too great already grows no more, or it could wrap around into its range.
                if (value <= most) {
                    value = value * 10 + here() - '0';
                }
                place++;
            }
            return numberInRange(value, start, least, most);
        }

        /** A number of so many digits, or WRONG. */
        private int countedNumber(int digits, int least, int most) {
            int start = place;
            int value = 0;
            for (int k = 0; k < digits; k++) {
                if (!isDigit(here())) {
                    return WRONG;
                }
                value = value * 10 + here() - '0';
                place++;
            }
            return numberInRange(value, start, least, most);
        }

        private int numberInRange(int value, int start, int least, int most) {
            if (isWithin(value, least, most)) {
                return value;
            }
            place = start;
            return WRONG;
        }
    }
}
