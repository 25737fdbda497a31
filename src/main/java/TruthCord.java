import java.util.Arrays;
import java.util.NoSuchElementException;

/** A valley in which whoever told a lie owes as long a truth; the document DOC.md says what each call answers. */
public final class TruthCord {
    public static final int NONE = -1;

    private static final int NOT_AS_TOLD = -2;
    private static final int NO_TERMS = NONE - 9999;

    private static final int MOST_PEOPLE = 8;
    private static final int MOST_FACTS = 12;
    private static final int MOST_SINCE = 8;
    private static final int MOST_LINES = 60;
    private static final int MOST_ONES = 20;
    private static final int MOST_WITHIN = 8;
    private static final int MOST_TELLINGS = 5;
    private static final int MOST_ORDERS = 120;
    private static final int FEAST_DEBTS = 8;
    /** A LINE of k liars has 7k + 4 bytes at the least, so 900 bytes make 118 DEBTS at the most. */
    private static final int MOST_DEBTS = 128;

    private static final int TAPE_BYTES = 940;
    private static final int FED_BYTES = 20;
    private static final int LONG_TEXT = 900;
    private static final int SHORT_TEXT = 200;

    private static final int KNOT_PLACES = 4;
    private static final int MOST_KNOTS = 4;
    private static final int LENGTHS = 125;
    private static final int MOST_MEASURINGS = 1000;

    private static final int FAULT_TOKEN = 1;
    private static final int FAULT_NUMBER = 2;
    private static final int FAULT_NAME = 3;
    private static final int FAULT_MANY = 4;

    /** The words that are no NAMES, each with a blank behind it; the numbers below are their places here. */
    private static final String KEYWORDS =
        "who fact knows since asks moon old secret silent found day lies hides tells sells with or and not has late owes debts paid hurt coins ";
    private static final int KEYWORD_COUNT = 26;
    private static final int WHO = 0;
    private static final int FACT = 1;
    private static final int KNOWS = 2;
    private static final int SINCE = 3;
    private static final int ASKS = 4;
    private static final int MOON = 5;
    private static final int FOUND = 9;
    private static final int DAY = 10;
    private static final int LIES = 11;
    private static final int SELLS = 14;
    private static final int WITH = 15;
    private static final int OR = 16;
    private static final int AND = 17;
    private static final int NOT = 18;
    private static final int HAS = 19;
    private static final int LATE = 20;
    private static final int OWES = 21;
    private static final int COINS = 25;

    /** The five settings moon, old, secret, silent, found, in this order in the three rows below. */
    private static final int SET_MOON = 0;
    private static final int SET_OLD = 1;
    private static final int SET_SECRET = 2;
    private static final int SET_SILENT = 3;
    private static final int SET_FOUND = 4;
    private static final int SETTINGS = 5;
    private static final int[] SET_UNTOLD = {28, 5, 15, 5, 20};
    private static final int[] SET_LEAST = {1, 0, 10, 0, 10};
    private static final int[] SET_MOST = {99, 10, 30, 20, 40};

    private static final int LINE_DAY = 0;
    private static final int LINE_LIES = 1;
    private static final int LINE_HIDES = 2;
    private static final int LINE_TELLS = 3;
    private static final int LINE_SELLS = 4;

    private static final int SUM_OWED = 0;
    private static final int SUM_DEBTS = 1;
    private static final int SUM_PAID = 2;
    private static final int SUM_HURT = 3;
    private static final int SUM_COINS = 4;

    private static final int ALL_OWED = 0;
    private static final int ALL_OPEN = 1;
    private static final int ALL_LATE = 2;
    private static final int ALL_FOUND = 3;

    /** Above every sum that is compared with it. */
    private static final int UNREACHED = 1 << 30;

    private final Tape tape;
    private final Reader reader;
    private final Valley valley;
    private final Valley newValley;
    private final Book book;
    private final Book newBook;
    private final Sentence sentence;
    private final Sentence newSentence;
    private final Ledger ledger;
    private final Ledger trial;
    private final Feast feast;
    private final Wants wants;
    private final Tellings tellings;
    private final Dice dice;
    private final int[] knots;
    private final Image[] images;
    private int faultKind;

    public TruthCord() {
        tape = new Tape();
        reader = new Reader(tape);
        valley = new Valley();
        newValley = new Valley();
        book = new Book();
        newBook = new Book();
        sentence = new Sentence();
        newSentence = new Sentence();
        ledger = new Ledger(valley, book);
        trial = new Ledger(valley, book);
        feast = new Feast();
        wants = new Wants();
        tellings = new Tellings();
        dice = new Dice();
        knots = new int[KNOT_PLACES];
        images = new Image[] {new Image(), new Image()};
        faultKind = 0;
    }

    public int feed(int a, int b, int c, int d, int e) {
        if (tape.length + FED_BYTES > TAPE_BYTES) {
            return NONE;
        }
        tape.put(a);
        tape.put(b);
        tape.put(c);
        tape.put(d);
        tape.put(e);
        return tape.length;
    }

    public boolean end(int n) {
        if (n < 0 || n > tape.length) {
            return false;
        }
        tape.length = n;
        return true;
    }

    public int valley() {
        reader.open(LONG_TEXT);
        int lines = newValley.take(reader);
        noteReading();
        if (lines < 0) {
            return refusedAt();
        }
        valley.copy(newValley);
        book.clear();
        sentence.clear();
        judgeAnew();
        return lines;
    }

    public int fault() {
        return faultKind;
    }

    public int fact(int f, int what) throws NoSuchElementException {
        if (!valley.hasFact(f)) {
            throw new NoSuchElementException();
        }
        switch (what) {
            case 0: return valley.lengthOf[f];
            case 1: return valley.hurtBy[f];
            case 2: return valley.about[f];
            default: throw new NoSuchElementException();
        }
    }

    public int knows(int who, int what) {
        if (!valley.hasWho(who)) {
            return NONE;
        }
        switch (what) {
            case 0: return valley.follow(valley.toldTo[who]);
            case 1: return ledger.known[who];
            default: return NONE;
        }
    }

    public int book() {
        reader.open(LONG_TEXT);
        boolean taken = newBook.take(reader, valley);
        noteReading();
        if (!taken) {
            return refusedAt();
        }
        book.copy(newBook);
        judgeAnew();
        return book.lines;
    }

    public int drawn(int n, int seed) {
        if (n < 1 || n > MOST_LINES || valley.people < 2 || valley.facts < 1) {
            return NONE;
        }
        dice.seed = seed;
        book.draw(n, dice, valley);
        judgeAnew();
        return book.lines;
    }

    public int line(int i, int what) throws NoSuchElementException {
        if (!book.hasLine(i)) {
            throw new NoSuchElementException();
        }
        switch (what) {
            case 0: return book.kind[i];
            case 1: return book.who[i];
            case 2: return book.other[i];
            case 3: return book.about[i];
            case 4: return book.more[i];
            default: throw new NoSuchElementException();
        }
    }

    public int wrong(int i) {
        return book.hasLine(i) ? ledger.why[i] : NONE;
    }

    public int debts() {
        return ledger.many;
    }

    public int debt(int d, int what) throws NoSuchElementException {
        if (!ledger.hasDebt(d)) {
            throw new NoSuchElementException();
        }
        switch (what) {
            case 0: return ledger.ower[d];
            case 1: return ledger.other[d];
            case 2: return ledger.about[d];
            case 3: return ledger.first[d];
            case 4: return ledger.open[d];
            case 5: return ledger.from[d];
            case 6: return ledger.paidBy[d];
            case 7: return ledger.found[d];
            case 8: return ledger.isLate(d) ? 1 : 0;
            default: throw new NoSuchElementException();
        }
    }

    public int worth(int who, int f) {
        if (!valley.hasWho(who) || !valley.hasFact(f) || !ledger.isKnown(who, f)) {
            return NONE;
        }
        return ledger.valueFor(who, f);
    }

    public int came(int who, int what) throws NoSuchElementException {
        if (!valley.hasWho(who) || what < SUM_OWED || what > SUM_COINS) {
            throw new NoSuchElementException();
        }
        return ledger.sumFor(who, what);
    }

    public int autumn(int what) {
        switch (what) {
            case ALL_OWED:
            case ALL_OPEN:
            case ALL_LATE:
            case ALL_FOUND: return ledger.sumInAll(what);
            case 4: return ledger.hurtInAll();
            case 5: return ledger.howManyWrong();
            case 6: return book.lastDay;
            default: return NONE;
        }
    }

    public int feast(int what) {
        feast.settle(ledger);
        switch (what) {
            case 0: return feast.paid;
            case 1: return feast.hurt;
            default: return NONE;
        }
    }

    public int feastAt(int k) {
        feast.settle(ledger);
        return k >= 0 && k < feast.many ? feast.pays[k] : NONE;
    }

    public int needs(int who, int what) {
        if (!valley.hasWho(who) || what < 0 || what > 1) {
            return NONE;
        }
        int set = wants.leastFor(ledger, who, false);
        if (set == UNREACHED) {
            return NONE;
        }
        return what == 0 ? Wants.factsIn(set) : Wants.bitsOf(set);
    }

    public int buys(int who, int what) {
        if (!valley.hasWho(who) || what < 0 || what > 1) {
            return NONE;
        }
        int set = wants.leastFor(ledger, who, true);
        if (set == UNREACHED) {
            return NONE;
        }
        return what == 0 ? Wants.coinsFor(set) : Wants.bitsOf(set);
    }

    public int terms(int who) {
        int d = valley.hasWho(who) ? ledger.firstOpenOf(who) : NONE;
        if (d == NONE) {
            return NO_TERMS;
        }
        return ledger.dayOf(d) + valley.settings[SET_MOON] + 1 - book.lastDay;
    }

    public int source(int who, int f) {
        return valley.hasWho(who) && valley.hasFact(f) ? ledger.cameBy[who * MOST_FACTS + f] : NONE;
    }

    public int led(int f, int k) {
        return valley.hasFact(f) ? ledger.paidByTelling(f, k) : NONE;
    }

    public int order() {
        boolean taken = tellings.take(tape, valley);
        tape.length = 0;
        return taken ? tellings.settle(ledger, trial) : NONE;
    }

    public int orderAt(int i) {
        return i >= 0 && i < tellings.bestMany ? tellings.best[i] : NONE;
    }

    public int ripple(int a, int b, int f, int what) {
        if (!valley.hasWho(a) || !valley.hasWho(b) || !valley.hasFact(f)) {
            return NONE;
        }
        if (!ledger.isKnown(a, f) || ledger.isKnown(b, f)) {
            return NONE;
        }
        int fresh = ledger.freshFor(b, f);
        switch (what) {
            case 0: return fresh;
            case 1: return ledger.openAbout(b, fresh);
            case 2: return ledger.owedInAll() + ledger.growthAbout(b, fresh);
            default: return NONE;
        }
    }

    public int unsaid(int i) {
        if (!book.hasLine(i)) {
            return NONE;
        }
        trial.judge(i);
        return trial.owedInAll();
    }

    public int cord(int length, int i) {
        return isLength(length) && i >= 0 && i < KNOT_PLACES ? knotsAt(length, i) : NONE;
    }

    public int read() {
        return takeKnots() ? lengthOf(knots) : NOT_AS_TOLD;
    }

    public int near(int k) {
        if (!takeKnots()) {
            return NOT_AS_TOLD;
        }
        int seen = 0;
        for (int length = 0; length < LENGTHS; length++) {
            if (isNear(length, knots)) {
                if (seen == k) {
                    return length;
                }
                seen++;
            }
        }
        return k == NONE ? seen : NONE;
    }

    public int measured(int length, int seed) {
        if (!isLength(length)) {
            return NONE;
        }
        dice.seed = seed;
        measure(length, dice, knots);
        int all = 0;
        for (int i = 0; i < KNOT_PLACES; i++) {
            all = all * 10 + knots[i];
        }
        return all;
    }

    public int slips(int length, int many, int seed) {
        if (!isLength(length) || many < 1 || many > MOST_MEASURINGS) {
            return NONE;
        }
        dice.seed = seed;
        int slipped = 0;
        for (int i = 0; i < many; i++) {
            measure(length, dice, knots);
            int got = lengthOf(knots);
            if (got != NONE && got != length) {
                slipped++;
            }
        }
        return slipped;
    }

    public int sentence() {
        reader.open(SHORT_TEXT);
        boolean taken = newSentence.take(reader, valley);
        noteReading();
        if (!taken) {
            return refusedAt();
        }
        sentence.copy(newSentence);
        return sentence.ones;
    }

    public int said() {
        return sentence.ones > 0 ? sentence.holdsFor(ledger) : NONE;
    }

    public boolean image(int k) {
        if (k < 0 || k >= images.length) {
            return false;
        }
        images[k].keep(valley, book, sentence);
        return true;
    }

    public boolean restore(int k) {
        if (k < 0 || k >= images.length || !images[k].kept) {
            return false;
        }
        valley.copy(images[k].valley);
        book.copy(images[k].book);
        sentence.copy(images[k].sentence);
        judgeAnew();
        return true;
    }

    public int count(int what) {
        switch (what) {
            case 0: return valley.people;
            case 1: return valley.facts;
            case 2: return valley.sinces;
            case 3: return book.lines;
            case 9: return tape.length;
            default: return what >= 4 && what < 4 + SETTINGS ? valley.settings[what - 4] : NONE;
        }
    }

    /** Every text that was read, well or not, leaves the tape empty and its kind of FAULT behind. */
    private void noteReading() {
        faultKind = reader.fault;
        tape.length = 0;
    }

    private int refusedAt() {
        return -1 - reader.at;
    }

    private void judgeAnew() {
        ledger.judge(NONE);
        feast.settled = false;
    }

    private boolean takeKnots() {
        boolean asTold = tape.length == KNOT_PLACES;
        for (int i = 0; i < KNOT_PLACES; i++) {
            knots[i] = tape.bytes[i];
            asTold = asTold && knots[i] <= MOST_KNOTS;
        }
        tape.length = 0;
        return asTold;
    }

    private static boolean isLength(int length) {
        return length >= 0 && length < LENGTHS;
    }

    private static int knotsAt(int length, int place) {
        int high = length / 25;
        int middle = length / 5 % 5;
        int low = length % 5;
        switch (place) {
            case 0: return high;
            case 1: return middle;
            case 2: return low;
            default: return (high + 2 * middle + 3 * low) % 5;
        }
    }

    private static int lengthOf(int[] knots) {
        int length = knots[0] * 25 + knots[1] * 5 + knots[2];
        return knotsAt(length, 3) == knots[3] ? length : NONE;
    }

    private static boolean isNear(int length, int[] knots) {
        int apart = 0;
        for (int i = 0; i < KNOT_PLACES; i++) {
            int gap = knotsAt(length, i) - knots[i];
            // squares, so that one place by two KNOTS can't pass for one place by one
            apart += gap * gap;
        }
        return apart == 1;
    }

    private static void measure(int length, Dice dice, int[] knots) {
        for (int i = 0; i < KNOT_PLACES; i++) {
            int right = knotsAt(length, i);
            int slip = dice.draw(10);
            if (slip == 0) {
                right = Math.min(right + 1, MOST_KNOTS);
            } else if (slip == 1) {
                right = Math.max(right - 1, 0);
            }
            knots[i] = right;
        }
    }

    private static int cutUp(int number, int by) {
        return by > 0 ? (number + by - 1) / by : 0;
    }

    private static boolean hasBit(int bits, int i) {
        return (bits >> i & 1) != 0;
    }

    /** Where a WORD's code stands among the first of these; NONE: it does not. */
    private static int placeOf(int code, int[] codes, int many) {
        for (int i = 0; i < many && i < codes.length; i++) {
            if (codes[i] == code) {
                return i;
            }
        }
        return NONE;
    }

    /** The bytes that were fed, 0 to 255 each. */
    private static final class Tape {
        final int[] bytes = new int[TAPE_BYTES];
        int length;

        void put(int number) {
            for (int shift = 24; shift >= 0 && length < bytes.length; shift -= 8) {
                bytes[length] = number >>> shift & 255;
                length++;
            }
        }
    }

    /** The draws by a seed. */
    private static final class Dice {
        int seed;

        int draw(int n) {
            seed = seed * 1103515245 + 12345;
            return n > 0 ? (seed >>> 8) % n : 0;
        }
    }

    /** The TOKENS of the tape, one at a time, and the FAULT of the text. */
    private static final class Reader {
        static final int END = 0;
        static final int WRONG = 1;
        static final int WORD = 2;
        static final int NUMBER = 3;
        static final int SIGN = 4;
        /** Six letters of five bits are one int: no text need be made for a WORD. */
        private static final int LETTER_BITS = 5;
        private static final int BEFORE_A = 'a' - 1;

        private final Tape tape;
        private final int[] keywords = new int[KEYWORD_COUNT];
        private int stop;
        private int next;
        int kind;
        /** Where the TOKEN begins; of a FAULT its place. */
        int at;
        /** A WORD's code, a NUMBER or a sign. */
        int value;
        int fault;

        Reader(Tape tape) {
            this.tape = tape;
            int many = 0;
            int code = 0;
            for (int i = 0; i < KEYWORDS.length(); i++) {
                char sign = KEYWORDS.charAt(i);
                if (sign != ' ') {
                    code = code << LETTER_BITS | sign - BEFORE_A;
                } else if (many < keywords.length) {
                    keywords[many] = code;
                    many++;
                    code = 0;
                }
            }
        }

        void open(int limit) {
            stop = Math.min(tape.length, limit);
            next = 0;
            at = 0;
            kind = END;
            value = 0;
            fault = 0;
        }

        void step() {
            while (next < stop && (tape.bytes[next] == ' ' || tape.bytes[next] == '\n')) {
                next++;
            }
            value = 0;
            if (next >= stop) {
                at = stop;
                // a text that goes on behind its limit has no end that could come
                kind = tape.length > stop ? WRONG : END;
                return;
            }
            at = next;
            if (takeRun()) {
                return;
            }
            value = tape.bytes[next];
            next++;
            kind = value == ';' || value == '(' || value == ')' || value >= '<' && value <= '>' ? SIGN : WRONG;
        }

        /** Takes small letters and digits as long as they go on; false: there are none. */
        private boolean takeRun() {
            int letters = 0;
            int digits = 0;
            int code = 0;
            int number = 0;
            // up to the tape's end and not the limit: a TOKEN that began is read whole
            for (; next < tape.length; next++) {
                int sign = tape.bytes[next];
                if (sign >= 'a' && sign <= 'z') {
                    letters++;
                    code = code << LETTER_BITS | sign - BEFORE_A;
                } else if (sign >= '0' && sign <= '9') {
                    digits++;
                    number = number * 10 + sign - '0';
                } else {
                    break;
                }
            }
            if (digits == 0 && letters <= 6) {
                kind = WORD;
                value = code;
            } else if (letters == 0 && digits <= 3) {
                kind = NUMBER;
                value = number;
            } else {
                kind = WRONG;
            }
            return letters + digits > 0;
        }

        /** Notes a FAULT at this TOKEN; false, so that a reader can answer with it. */
        boolean refuse(int why) {
            fault = why;
            return false;
        }

        boolean isSign(char sign) {
            return kind == SIGN && value == sign;
        }

        /** Which of the words that are no NAMES this TOKEN is; NONE: it is none of them. */
        int keyword() {
            return kind == WORD ? placeOf(value, keywords, keywords.length) : NONE;
        }

        boolean isName() {
            return kind == WORD && placeOf(value, keywords, keywords.length) == NONE;
        }

        boolean stepSign(char sign) {
            step();
            return isSign(sign) || refuse(FAULT_TOKEN);
        }

        /** The NUMBER that comes; NONE with a FAULT noted. */
        int stepNumber(int least, int most) {
            step();
            if (kind != NUMBER) {
                refuse(FAULT_TOKEN);
                return NONE;
            }
            if (value < least || value > most) {
                refuse(FAULT_NUMBER);
                return NONE;
            }
            return value;
        }

        /** Which of these the NAME that comes is; NONE with a FAULT noted. */
        int stepName(int[] names, int many) {
            step();
            if (!isName()) {
                refuse(FAULT_TOKEN);
                return NONE;
            }
            int place = placeOf(value, names, many);
            if (place == NONE) {
                refuse(FAULT_NAME);
            }
            return place;
        }
    }

    /** PEOPLE, FACTS, who was told to know them, what follows from what, and the settings. */
    private static final class Valley {
        int people;
        int facts;
        int sinces;
        private int settingsTold;
        final int[] whoNames = new int[MOST_PEOPLE];
        final int[] toldTo = new int[MOST_PEOPLE];
        final int[] factNames = new int[MOST_FACTS];
        final int[] lengthOf = new int[MOST_FACTS];
        final int[] hurtBy = new int[MOST_FACTS];
        final int[] about = new int[MOST_FACTS];
        final int[] sinceNeeds = new int[MOST_SINCE];
        final int[] sinceGives = new int[MOST_SINCE];
        final int[] asked = new int[MOST_PEOPLE * MOST_FACTS];
        final int[] settings = new int[SETTINGS];

        Valley() {
            Arrays.fill(asked, NONE);
            System.arraycopy(SET_UNTOLD, 0, settings, 0, SETTINGS);
        }

        void clear() {
            people = 0;
            facts = 0;
            sinces = 0;
            settingsTold = 0;
            Arrays.fill(toldTo, 0);
            Arrays.fill(asked, NONE);
            System.arraycopy(SET_UNTOLD, 0, settings, 0, SETTINGS);
        }

        void copy(Valley from) {
            people = from.people;
            facts = from.facts;
            sinces = from.sinces;
            System.arraycopy(from.whoNames, 0, whoNames, 0, MOST_PEOPLE);
            System.arraycopy(from.toldTo, 0, toldTo, 0, MOST_PEOPLE);
            System.arraycopy(from.factNames, 0, factNames, 0, MOST_FACTS);
            System.arraycopy(from.lengthOf, 0, lengthOf, 0, MOST_FACTS);
            System.arraycopy(from.hurtBy, 0, hurtBy, 0, MOST_FACTS);
            System.arraycopy(from.about, 0, about, 0, MOST_FACTS);
            System.arraycopy(from.sinceNeeds, 0, sinceNeeds, 0, MOST_SINCE);
            System.arraycopy(from.sinceGives, 0, sinceGives, 0, MOST_SINCE);
            System.arraycopy(from.asked, 0, asked, 0, MOST_PEOPLE * MOST_FACTS);
            System.arraycopy(from.settings, 0, settings, 0, SETTINGS);
        }

        boolean hasWho(int who) {
            return who >= 0 && who < people;
        }

        boolean hasFact(int f) {
            return f >= 0 && f < facts;
        }

        /** What one KNOWS who knows these: a round without gain is the last, so 'since' rounds are enough. */
        int follow(int known) {
            int all = known;
            for (int round = 0; round < sinces; round++) {
                int before = all;
                for (int i = 0; i < sinces; i++) {
                    if ((all & sinceNeeds[i]) == sinceNeeds[i]) {
                        all |= sinceGives[i];
                    }
                }
                if (all == before) {
                    break;
                }
            }
            return all;
        }

        /** How many LINES the text has; NONE with a FAULT noted. */
        int take(Reader text) {
            clear();
            for (int lines = 0; lines <= LONG_TEXT; lines++) {
                text.step();
                if (text.kind == Reader.END) {
                    return lines;
                }
                if (!takeLine(text)) {
                    return NONE;
                }
            }
            return NONE;
        }

        private boolean takeLine(Reader text) {
            int word = text.keyword();
            switch (word) {
                case WHO: return takeWho(text) && text.stepSign(';');
                case FACT: return takeFact(text) && text.stepSign(';');
                case KNOWS: return takeKnows(text) && text.stepSign(';');
                case SINCE: return takeSince(text) && text.stepSign(';');
                case ASKS: return takeAsks(text) && text.stepSign(';');
                default:
                    if (word < MOON || word > FOUND) {
                        return text.refuse(FAULT_TOKEN);
                    }
                    return takeSetting(text, word - MOON) && text.stepSign(';');
            }
        }

        private boolean takeNewName(Reader text) {
            text.step();
            if (!text.isName()) {
                return text.refuse(FAULT_TOKEN);
            }
            boolean isWho = placeOf(text.value, whoNames, people) != NONE;
            boolean isFact = placeOf(text.value, factNames, facts) != NONE;
            return !isWho && !isFact || text.refuse(FAULT_NAME);
        }

        private boolean takeWho(Reader text) {
            if (people >= MOST_PEOPLE) {
                return text.refuse(FAULT_MANY);
            }
            if (!takeNewName(text)) {
                return false;
            }
            whoNames[people] = text.value;
            people++;
            return true;
        }

        private boolean takeFact(Reader text) {
            if (facts >= MOST_FACTS) {
                return text.refuse(FAULT_MANY);
            }
            if (!takeNewName(text)) {
                return false;
            }
            int name = text.value;
            int length = text.stepNumber(1, 99);
            if (length == NONE) {
                return false;
            }
            int hurt = text.stepNumber(0, 99);
            if (hurt == NONE) {
                return false;
            }
            int who = text.stepName(whoNames, people);
            if (who == NONE) {
                return false;
            }
            factNames[facts] = name;
            lengthOf[facts] = length;
            hurtBy[facts] = hurt;
            about[facts] = who;
            facts++;
            return true;
        }

        private boolean takeKnows(Reader text) {
            int who = text.stepName(whoNames, people);
            if (who == NONE) {
                return false;
            }
            int f = text.stepName(factNames, facts);
            if (f == NONE) {
                return false;
            }
            if (hasBit(toldTo[who], f)) {
                return text.refuse(FAULT_NAME);
            }
            toldTo[who] |= 1 << f;
            return true;
        }

        private boolean takeSince(Reader text) {
            if (sinces >= MOST_SINCE) {
                return text.refuse(FAULT_MANY);
            }
            int needed = 0;
            int given = 0;
            for (int i = 0; i < 3; i++) {
                int f = text.stepName(factNames, facts);
                if (f == NONE) {
                    return false;
                }
                if (hasBit(needed, f)) {
                    return text.refuse(FAULT_NAME);
                }
                if (i < 2) {
                    needed |= 1 << f;
                } else {
                    given = 1 << f;
                }
            }
            sinceNeeds[sinces] = needed;
            sinceGives[sinces] = given;
            sinces++;
            return true;
        }

        private boolean takeAsks(Reader text) {
            int who = text.stepName(whoNames, people);
            if (who == NONE) {
                return false;
            }
            int f = text.stepName(factNames, facts);
            if (f == NONE) {
                return false;
            }
            int place = who * MOST_FACTS + f;
            if (asked[place] != NONE) {
                return text.refuse(FAULT_NAME);
            }
            int coins = text.stepNumber(0, 99);
            if (coins == NONE) {
                return false;
            }
            asked[place] = coins;
            return true;
        }

        private boolean takeSetting(Reader text, int which) {
            if (hasBit(settingsTold, which)) {
                return text.refuse(FAULT_NAME);
            }
            int number = text.stepNumber(SET_LEAST[which], SET_MOST[which]);
            if (number == NONE) {
                return false;
            }
            settingsTold |= 1 << which;
            settings[which] = number;
            return true;
        }
    }

    /** The LINES of lies, silence, truths and sales. */
    private static final class Book {
        int lines;
        int lastDay;
        final int[] kind = new int[MOST_LINES];
        /** Who does it; of a 'day' the DAY. */
        final int[] who = new int[MOST_LINES];
        final int[] other = new int[MOST_LINES];
        final int[] about = new int[MOST_LINES];
        /** Those 'with' as bits, or COINS. */
        final int[] more = new int[MOST_LINES];
        /** Those 'with' as they were told, three bits each from the lowest on: DEBTS come in this order. */
        final int[] withTurns = new int[MOST_LINES];
        final int[] day = new int[MOST_LINES];

        void clear() {
            lines = 0;
            lastDay = 0;
        }

        void copy(Book from) {
            lines = from.lines;
            lastDay = from.lastDay;
            System.arraycopy(from.kind, 0, kind, 0, MOST_LINES);
            System.arraycopy(from.who, 0, who, 0, MOST_LINES);
            System.arraycopy(from.other, 0, other, 0, MOST_LINES);
            System.arraycopy(from.about, 0, about, 0, MOST_LINES);
            System.arraycopy(from.more, 0, more, 0, MOST_LINES);
            System.arraycopy(from.withTurns, 0, withTurns, 0, MOST_LINES);
            System.arraycopy(from.day, 0, day, 0, MOST_LINES);
        }

        boolean hasLine(int i) {
            return i >= 0 && i < lines;
        }

        private void addDay(int number) {
            lastDay = number;
            add(LINE_DAY, number, NONE, NONE, 0, 0);
        }

        private void add(int what, int one, int another, int f, int extra, int turns) {
            if (lines >= MOST_LINES) {
                return;
            }
            kind[lines] = what;
            who[lines] = one;
            other[lines] = another;
            about[lines] = f;
            more[lines] = extra;
            withTurns[lines] = turns;
            day[lines] = lastDay;
            lines++;
        }

        void draw(int n, Dice dice, Valley valley) {
            clear();
            for (int i = 0; i < n; i++) {
                int what = dice.draw(8);
                int one = dice.draw(valley.people);
                int another = dice.draw(valley.people);
                int f = dice.draw(valley.facts);
                if (another == one) {
                    another = one + 1 < valley.people ? one + 1 : 0;
                }
                switch (what) {
                    case 0: addDay(lastDay + 1); break;
                    case 1:
                    case 2: add(LINE_LIES, one, another, f, 0, 0); break;
                    case 3: add(LINE_HIDES, one, another, f, 0, 0); break;
                    case 4: add(LINE_SELLS, one, another, f, dice.draw(20), 0); break;
                    default: add(LINE_TELLS, one, another, f, 0, 0); break;
                }
            }
        }

        boolean take(Reader text, Valley valley) {
            clear();
            for (int i = 0; i <= MOST_LINES; i++) {
                text.step();
                if (text.kind == Reader.END) {
                    return true;
                }
                if (!takeLine(text, valley)) {
                    return false;
                }
            }
            return false;
        }

        private boolean takeLine(Reader text, Valley valley) {
            if (text.keyword() == DAY) {
                return takeDay(text);
            }
            if (!text.isName()) {
                return text.refuse(FAULT_TOKEN);
            }
            int one = placeOf(text.value, valley.whoNames, valley.people);
            if (one == NONE) {
                return text.refuse(FAULT_NAME);
            }
            if (lines >= MOST_LINES) {
                return text.refuse(FAULT_MANY);
            }
            return takeDeed(text, valley, one);
        }

        private boolean takeDay(Reader text) {
            if (lines >= MOST_LINES) {
                return text.refuse(FAULT_MANY);
            }
            int number = text.stepNumber(lines == 0 ? 0 : lastDay + 1, 999);
            if (number == NONE || !text.stepSign(';')) {
                return false;
            }
            addDay(number);
            return true;
        }

        private boolean takeDeed(Reader text, Valley valley, int one) {
            text.step();
            int word = text.keyword();
            if (word < LIES || word > SELLS) {
                return text.refuse(FAULT_TOKEN);
            }
            int another = text.stepName(valley.whoNames, valley.people);
            if (another == NONE) {
                return false;
            }
            if (another == one) {
                return text.refuse(FAULT_NAME);
            }
            int f = text.stepName(valley.factNames, valley.facts);
            if (f == NONE) {
                return false;
            }
            if (word == LIES) {
                return takeWith(text, valley, one, another, f);
            }
            int coins = word == SELLS ? text.stepNumber(0, 99) : 0;
            if (coins == NONE || !text.stepSign(';')) {
                return false;
            }
            add(word - DAY, one, another, f, coins, 0);
            return true;
        }

        private boolean takeWith(Reader text, Valley valley, int one, int another, int f) {
            int met = 1 << one | 1 << another;
            int with = 0;
            int turns = 0;
            // nobody comes twice, so the last round finds its ';' or a FAULT
            for (int many = 0; many <= MOST_PEOPLE; many++) {
                text.step();
                if (text.isSign(';')) {
                    add(LINE_LIES, one, another, f, with, turns);
                    return true;
                }
                if (text.keyword() != WITH) {
                    return text.refuse(FAULT_TOKEN);
                }
                int next = text.stepName(valley.whoNames, valley.people);
                if (next == NONE) {
                    return false;
                }
                if (hasBit(met, next)) {
                    return text.refuse(FAULT_NAME);
                }
                met |= 1 << next;
                with |= 1 << next;
                turns |= next << 3 * many;
            }
            return text.refuse(FAULT_TOKEN);
        }
    }

    /** What a BOOK comes to, LINE by LINE. */
    private static final class Ledger {
        private final Valley valley;
        private final Book book;
        final int[] known = new int[MOST_PEOPLE];
        final int[] hurtOf = new int[MOST_PEOPLE];
        final int[] coinsOf = new int[MOST_PEOPLE];
        final int[] cameBy = new int[MOST_PEOPLE * MOST_FACTS];
        final int[] why = new int[MOST_LINES];
        /** FACTS that were told or sold. */
        private int told;
        int many;
        final int[] ower = new int[MOST_DEBTS];
        final int[] other = new int[MOST_DEBTS];
        final int[] about = new int[MOST_DEBTS];
        final int[] first = new int[MOST_DEBTS];
        final int[] open = new int[MOST_DEBTS];
        final int[] from = new int[MOST_DEBTS];
        final int[] paidBy = new int[MOST_DEBTS];
        final int[] found = new int[MOST_DEBTS];

        Ledger(Valley valley, Book book) {
            this.valley = valley;
            this.book = book;
            Arrays.fill(cameBy, NONE);
        }

        private void clear() {
            for (int i = 0; i < MOST_PEOPLE; i++) {
                known[i] = i < valley.people ? valley.follow(valley.toldTo[i]) : 0;
            }
            Arrays.fill(hurtOf, 0);
            Arrays.fill(coinsOf, 0);
            Arrays.fill(cameBy, NONE);
            told = 0;
            many = 0;
        }

        /** Judges the BOOK without the LINE that is left out (NONE: with all). */
        void judge(int leftOut) {
            clear();
            for (int i = 0; i < book.lines; i++) {
                why[i] = i == leftOut ? 0 : judgeLine(i);
            }
        }

        private int judgeLine(int i) {
            int kind = book.kind[i];
            if (kind == LINE_DAY) {
                return 0;
            }
            int who = book.who[i];
            int another = book.other[i];
            int f = book.about[i];
            int liars = kind == LINE_LIES ? book.more[i] : 0;
            int reason = whyWrong(liars | 1 << who, another, f);
            if (reason != 0) {
                return reason;
            }
            switch (kind) {
                case LINE_LIES:
                    lie(i);
                    break;
                case LINE_HIDES:
                    owe(who, cutUp(valley.lengthOf[f] * valley.settings[SET_SILENT], 10), i);
                    break;
                case LINE_TELLS:
                    tell(who, another, f, i);
                    break;
                default:
                    coinsOf[who] += book.more[i];
                    coinsOf[another] -= book.more[i];
                    learn(another, f, i);
                    break;
            }
            return 0;
        }

        private int whyWrong(int doers, int another, int f) {
            for (int i = 0; i < valley.people; i++) {
                if (hasBit(doers, i) && !isKnown(i, f)) {
                    return 1;
                }
            }
            return isKnown(another, f) ? 2 : 0;
        }

        private void lie(int i) {
            int with = Integer.bitCount(book.more[i]);
            int share = cutUp(valley.lengthOf[book.about[i]], with + 1);
            owe(book.who[i], share, i);
            for (int k = 0; k < with; k++) {
                owe(book.withTurns[i] >> 3 * k & 7, share, i);
            }
        }

        private void owe(int who, int much, int i) {
            if (much == 0 || many >= MOST_DEBTS) {
                return;
            }
            ower[many] = who;
            other[many] = book.other[i];
            about[many] = book.about[i];
            first[many] = much;
            open[many] = much;
            from[many] = i;
            paidBy[many] = NONE;
            found[many] = 0;
            many++;
        }

        private void tell(int who, int another, int f, int i) {
            pay(who, valueFor(who, f), i);
            hurtOf[valley.about[f]] += valley.hurtBy[f];
            learn(another, f, i);
        }

        private void pay(int who, int value, int i) {
            for (int d = 0; d < many; d++) {
                if (ower[d] == who && open[d] > 0 && open[d] <= value) {
                    open[d] = 0;
                    paidBy[d] = i;
                    return;
                }
            }
        }

        private void learn(int who, int f, int i) {
            int fresh = freshFor(who, f);
            known[who] |= fresh;
            told |= 1 << f;
            for (int k = 0; k < valley.facts; k++) {
                if (hasBit(fresh, k)) {
                    cameBy[who * MOST_FACTS + k] = i;
                }
            }
            for (int d = 0; d < many; d++) {
                if (other[d] == who && hasBit(fresh, about[d])) {
                    found[d] = 1;
                    open[d] = grown(open[d]);
                }
            }
        }

        private int grown(int much) {
            return cutUp(much * valley.settings[SET_FOUND], 10);
        }

        /** One more telling behind the BOOK: why it is WRONG (0: it is not, and is done). */
        int tellMore(int who, int another, int f) {
            int reason = whyWrong(1 << who, another, f);
            if (reason == 0) {
                tell(who, another, f, book.lines);
            }
            return reason;
        }

        /** The DEBTS of another ledger of the same BOOK, so that tellings can be tried on them. */
        void copyDebts(Ledger of) {
            many = of.many;
            System.arraycopy(of.ower, 0, ower, 0, MOST_DEBTS);
            System.arraycopy(of.other, 0, other, 0, MOST_DEBTS);
            System.arraycopy(of.about, 0, about, 0, MOST_DEBTS);
        }

        /** What tellings look at and change, as it is in the other ledger. */
        void goBackTo(Ledger of) {
            told = of.told;
            System.arraycopy(of.known, 0, known, 0, MOST_PEOPLE);
            System.arraycopy(of.open, 0, open, 0, MOST_DEBTS);
        }

        boolean hasDebt(int d) {
            return d >= 0 && d < many;
        }

        boolean isKnown(int who, int f) {
            return hasBit(known[who], f);
        }

        /** What is new to one who is told a FACT. */
        int freshFor(int who, int f) {
            return valley.follow(known[who] | 1 << f) & ~known[who];
        }

        int oldValue(int f) {
            return valley.lengthOf[f] * valley.settings[SET_OLD] / 10;
        }

        int valueFor(int who, int f) {
            if (hasBit(told, f)) {
                return oldValue(f);
            }
            if (valley.about[f] == who || hasBit(knownToOthers(who), f)) {
                return valley.lengthOf[f];
            }
            return valley.lengthOf[f] * valley.settings[SET_SECRET] / 10;
        }

        private int knownToOthers(int who) {
            int all = 0;
            for (int i = 0; i < valley.people; i++) {
                all |= i != who ? known[i] : 0;
            }
            return all;
        }

        int knownToAll() {
            int all = (1 << MOST_FACTS) - 1;
            for (int i = 0; i < valley.people; i++) {
                all &= known[i];
            }
            return all;
        }

        int dayOf(int d) {
            return book.day[from[d]];
        }

        boolean isLate(int d) {
            int end = book.hasLine(paidBy[d]) ? book.day[paidBy[d]] : book.lastDay;
            return end - dayOf(d) > valley.settings[SET_MOON];
        }

        int firstOpenOf(int who) {
            for (int d = 0; d < many; d++) {
                if (ower[d] == who && open[d] > 0) {
                    return d;
                }
            }
            return NONE;
        }

        /** How many DEBTS were paid by telling a FACT (k NONE), or the k-th one's number; NONE: none such. */
        int paidByTelling(int f, int k) {
            int seen = 0;
            for (int d = 0; d < many; d++) {
                if (book.hasLine(paidBy[d]) && book.about[paidBy[d]] == f) {
                    if (seen == k) {
                        return d;
                    }
                    seen++;
                }
            }
            return k == NONE ? seen : NONE;
        }

        int sumFor(int who, int what) {
            if (what == SUM_HURT) {
                return hurtOf[who];
            }
            if (what == SUM_COINS) {
                return coinsOf[who];
            }
            int sum = 0;
            for (int d = 0; d < many; d++) {
                if (ower[d] == who) {
                    switch (what) {
                        case SUM_OWED: sum += open[d]; break;
                        case SUM_DEBTS: sum++; break;
                        case SUM_PAID: sum += open[d] == 0 ? 1 : 0; break;
                        default: break;
                    }
                }
            }
            return sum;
        }

        boolean hasLate(int who) {
            for (int d = 0; d < many; d++) {
                if (ower[d] == who && isLate(d)) {
                    return true;
                }
            }
            return false;
        }

        int owedInAll() {
            return sumInAll(ALL_OWED);
        }

        /** Of all DEBTS, as autumn() tells it. */
        int sumInAll(int what) {
            int sum = 0;
            for (int d = 0; d < many; d++) {
                switch (what) {
                    case ALL_OWED: sum += open[d]; break;
                    case ALL_OPEN: sum += open[d] > 0 ? 1 : 0; break;
                    case ALL_LATE: sum += isLate(d) ? 1 : 0; break;
                    case ALL_FOUND: sum += found[d]; break;
                    default: break;
                }
            }
            return sum;
        }

        int hurtInAll() {
            int sum = 0;
            for (int i = 0; i < valley.people; i++) {
                sum += hurtOf[i];
            }
            return sum;
        }

        int howManyWrong() {
            int sum = 0;
            for (int i = 0; i < book.lines; i++) {
                sum += why[i] != 0 ? 1 : 0;
            }
            return sum;
        }

        private boolean isOpenAbout(int d, int who, int facts) {
            return other[d] == who && open[d] > 0 && hasBit(facts, about[d]);
        }

        int openAbout(int who, int facts) {
            int sum = 0;
            for (int d = 0; d < many; d++) {
                sum += isOpenAbout(d, who, facts) ? 1 : 0;
            }
            return sum;
        }

        /** By how much more is OWED when one finds out about these FACTS. */
        int growthAbout(int who, int facts) {
            int sum = 0;
            for (int d = 0; d < many; d++) {
                sum += isOpenAbout(d, who, facts) ? grown(open[d]) - open[d] : 0;
            }
            return sum;
        }

        /** The least COINS that somebody else who KNOWS a FACT asks for it; NONE: nobody sells it. */
        int priceFor(int who, int f) {
            int least = NONE;
            for (int i = 0; i < valley.people; i++) {
                int coins = valley.asked[i * MOST_FACTS + f];
                if (i != who && isKnown(i, f) && coins != NONE && (least == NONE || coins < least)) {
                    least = coins;
                }
            }
            return least;
        }
    }

    /**
     * Which FACTS pay which of the first open DEBTS. A choice is one long, unpaid DEBTS ahead of HURT ahead of a digit of
     * four bits for each DEBT: so the least long is the FEAST, and what each pair adds to it is the same in every choice.
     */
    private static final class Feast {
        private static final long NO_CHOICE = 1L << 60;
        private static final int HURT_SHIFT = 32;
        private static final int UNPAID_SHIFT = 42;
        private static final int NO_FACT = 15;

        boolean settled;
        int many;
        int paid;
        int hurt;
        final int[] pays = new int[FEAST_DEBTS];
        private final int[] payable = new int[FEAST_DEBTS];
        /** For each set of DEBTS the least long that pays just these, with the FACTS that were looked at. */
        private final long[] least = new long[1 << FEAST_DEBTS];

        void settle(Ledger ledger) {
            if (settled) {
                return;
            }
            takeDebts(ledger);
            int sets = 1 << many;
            Arrays.fill(least, NO_CHOICE);
            least[0] = 0;
            for (int f = 0; f < ledger.valley.facts; f++) {
                tryFact(f, ledger.valley.hurtBy[f], sets);
            }
            long best = NO_CHOICE;
            for (int set = 0; set < sets; set++) {
                best = Math.min(best, least[set] + unpaidBut(set));
            }
            keep(best);
            settled = true;
        }

        private void takeDebts(Ledger ledger) {
            many = 0;
            int spread = ledger.knownToAll();
            for (int d = 0; d < ledger.many && many < FEAST_DEBTS; d++) {
                if (ledger.open[d] > 0) {
                    payable[many] = payableFor(ledger, d, ledger.known[ledger.ower[d]] & ~spread);
                    many++;
                }
            }
        }

        private static int payableFor(Ledger ledger, int d, int usable) {
            int facts = 0;
            for (int f = 0; f < ledger.valley.facts; f++) {
                if (hasBit(usable, f) && ledger.valueFor(ledger.ower[d], f) >= ledger.open[d]) {
                    facts |= 1 << f;
                }
            }
            return facts;
        }

        /** The first DEBT's digit is the highest, as it is compared first. */
        private static int digitShift(int k) {
            return 4 * (FEAST_DEBTS - 1 - k);
        }

        private void tryFact(int f, int hurtBy, int sets) {
            // from the greatest set down, so that a FACT is not used twice
            for (int set = sets - 1; set > 0; set--) {
                for (int k = 0; k < many; k++) {
                    if (hasBit(set, k) && hasBit(payable[k], f)) {
                        long pair = ((long) hurtBy << HURT_SHIFT) + ((long) f << digitShift(k));
                        least[set] = Math.min(least[set], least[set ^ 1 << k] + pair);
                    }
                }
            }
        }

        private long unpaidBut(int set) {
            long sum = 0;
            for (int k = 0; k < many; k++) {
                if (!hasBit(set, k)) {
                    sum += (1L << UNPAID_SHIFT) + ((long) NO_FACT << digitShift(k));
                }
            }
            return sum;
        }

        private void keep(long best) {
            paid = many - (int) (best >> UNPAID_SHIFT);
            hurt = (int) (best >> HURT_SHIFT) & (1 << UNPAID_SHIFT - HURT_SHIFT) - 1;
            for (int k = 0; k < many; k++) {
                int digit = (int) (best >> digitShift(k)) & NO_FACT;
                pays[k] = digit == NO_FACT ? NONE : digit;
            }
        }
    }

    /**
     * What one must be told, or buy, to pay all. A set of FACTS is one int, COINS ahead of how many ahead of the bits: the
     * least int is the set that is asked for, and what each FACT adds to it is the same in every set.
     */
    private static final class Wants {
        private static final int COINS_SHIFT = 16;
        private static final int FACTS_SHIFT = 12;

        private final int[] value = new int[MOST_FACTS];
        private final int[] price = new int[MOST_FACTS];
        private final int[] dear = new int[MOST_FACTS];
        private final int[] due = new int[MOST_FACTS];
        /** For each number of the greatest DEBTS the least set that pays these. */
        private final int[] least = new int[MOST_FACTS + 1];

        static int coinsFor(int set) {
            return set >> COINS_SHIFT;
        }

        static int factsIn(int set) {
            return set >> FACTS_SHIFT & (1 << COINS_SHIFT - FACTS_SHIFT) - 1;
        }

        static int bitsOf(int set) {
            return set & (1 << FACTS_SHIFT) - 1;
        }

        /** The set; UNREACHED: none does. */
        int leastFor(Ledger ledger, int who, boolean buying) {
            int dues = takeDues(ledger, who);
            if (dues == NONE) {
                return UNREACHED;
            }
            int facts = ledger.valley.facts;
            for (int f = 0; f < facts; f++) {
                takeFact(ledger, who, f, buying);
            }
            Arrays.fill(least, UNREACHED);
            least[0] = 0;
            // the greatest FACT first to the greatest DEBT: if any pairs do, those do
            for (int i = 0; i < facts; i++) {
                int f = dear[i];
                for (int k = dues - 1; k >= 0 && price[f] != UNREACHED; k--) {
                    if (value[f] >= due[k] && least[k] != UNREACHED) {
                        least[k + 1] = Math.min(least[k + 1], least[k] + price[f]);
                    }
                }
            }
            return least[dues];
        }

        /** Sorts in one's open DEBTS, the greatest first: how many; NONE: more than there can be FACTS. */
        private int takeDues(Ledger ledger, int who) {
            int dues = 0;
            for (int d = 0; d < ledger.many; d++) {
                if (ledger.ower[d] == who && ledger.open[d] > 0) {
                    if (dues >= MOST_FACTS) {
                        return NONE;
                    }
                    int k = dues;
                    while (k > 0 && due[k - 1] < ledger.open[d]) {
                        due[k] = due[k - 1];
                        k--;
                    }
                    due[k] = ledger.open[d];
                    dues++;
                }
            }
            return dues;
        }

        /** Sorts in a FACT, the one that pays most first. */
        private void takeFact(Ledger ledger, int who, int f, boolean buying) {
            if (ledger.isKnown(who, f)) {
                value[f] = ledger.valueFor(who, f);
                price[f] = 0;
            } else {
                int coins = buying ? ledger.priceFor(who, f) : 0;
                value[f] = ledger.oldValue(f);
                price[f] = coins == NONE ? UNREACHED : (coins << COINS_SHIFT) + (1 << FACTS_SHIFT) + (1 << f);
            }
            int k = f;
            while (k > 0 && value[dear[k - 1]] < value[f]) {
                dear[k] = dear[k - 1];
                k--;
            }
            dear[k] = f;
        }
    }

    /** Tellings behind the BOOK, tried in every order. */
    private static final class Tellings {
        private int many;
        private final int[] who = new int[MOST_TELLINGS];
        private final int[] other = new int[MOST_TELLINGS];
        private final int[] about = new int[MOST_TELLINGS];
        private final int[] turns = new int[MOST_TELLINGS];
        int bestMany;
        final int[] best = new int[MOST_TELLINGS];

        /** Whether the tape has tellings as told. */
        boolean take(Tape tape, Valley valley) {
            if (tape.length < 3 || tape.length > 3 * MOST_TELLINGS || tape.length % 3 != 0) {
                return false;
            }
            many = tape.length / 3;
            for (int i = 0; i < many; i++) {
                who[i] = tape.bytes[3 * i];
                other[i] = tape.bytes[3 * i + 1];
                about[i] = tape.bytes[3 * i + 2];
                boolean there = valley.hasWho(who[i]) && valley.hasWho(other[i]) && valley.hasFact(about[i]);
                if (!there || who[i] == other[i]) {
                    return false;
                }
            }
            return true;
        }

        /** What is OWED in all behind the best order, which is kept. */
        int settle(Ledger ledger, Ledger trial) {
            trial.copyDebts(ledger);
            for (int i = 0; i < many; i++) {
                turns[i] = i;
            }
            int leastOwed = UNREACHED;
            int fewestWrong = UNREACHED;
            boolean more = true;
            for (int i = 0; i < MOST_ORDERS && more; i++) {
                trial.goBackTo(ledger);
                int wrongs = tryTurns(trial);
                int owed = trial.owedInAll();
                if (owed < leastOwed || owed == leastOwed && wrongs < fewestWrong) {
                    leastOwed = owed;
                    fewestWrong = wrongs;
                    System.arraycopy(turns, 0, best, 0, many);
                }
                more = nextTurns();
            }
            bestMany = many;
            return leastOwed;
        }

        private int tryTurns(Ledger trial) {
            int wrongs = 0;
            for (int i = 0; i < many; i++) {
                int k = turns[i];
                wrongs += trial.tellMore(who[k], other[k], about[k]) != 0 ? 1 : 0;
            }
            return wrongs;
        }

        /** The next order behind this one, telling by telling; false: this is the last. */
        private boolean nextTurns() {
            int low = many - 2;
            while (low >= 0 && turns[low] > turns[low + 1]) {
                low--;
            }
            if (low < 0) {
                return false;
            }
            int high = many - 1;
            while (high > low && turns[high] < turns[low]) {
                high--;
            }
            swap(low, high);
            for (int i = low + 1, k = many - 1; i < k; i++, k--) {
                swap(i, k);
            }
            return true;
        }

        private void swap(int i, int k) {
            int kept = turns[i];
            turns[i] = turns[k];
            turns[k] = kept;
        }
    }

    /** A SENTENCE as steps on a pile of sets of PEOPLE; a bracket is no step. */
    private static final class Sentence {
        /** 20 ONES are joined by 19 'and', 'or' at the most. */
        private static final int MOST_STEPS = 2 * MOST_ONES;

        /** 0: there is no SENTENCE. */
        int ones;
        private int steps;
        private final int[] word = new int[MOST_STEPS];
        private final int[] sign = new int[MOST_STEPS];
        private final int[] number = new int[MOST_STEPS];
        private final int[] pile = new int[MOST_STEPS];

        void clear() {
            ones = 0;
            steps = 0;
        }

        void copy(Sentence from) {
            ones = from.ones;
            steps = from.steps;
            System.arraycopy(from.word, 0, word, 0, MOST_STEPS);
            System.arraycopy(from.sign, 0, sign, 0, MOST_STEPS);
            System.arraycopy(from.number, 0, number, 0, MOST_STEPS);
        }

        boolean take(Reader text, Valley valley) {
            clear();
            text.step();
            if (!takeCond(text, valley, 1)) {
                return false;
            }
            return text.kind == Reader.END || text.refuse(FAULT_TOKEN);
        }

        /** Each of these three begins at its first TOKEN and ends at the one behind it. */
        private boolean takeCond(Reader text, Valley valley, int depth) {
            if (!takeAll(text, valley, depth)) {
                return false;
            }
            for (int i = 0; i < SHORT_TEXT && text.keyword() == OR; i++) {
                text.step();
                if (!takeAll(text, valley, depth)) {
                    return false;
                }
                addStep(OR, 0, 0);
            }
            return true;
        }

        private boolean takeAll(Reader text, Valley valley, int depth) {
            if (!takeOne(text, valley, depth)) {
                return false;
            }
            for (int i = 0; i < SHORT_TEXT && text.keyword() == AND; i++) {
                text.step();
                if (!takeOne(text, valley, depth)) {
                    return false;
                }
                addStep(AND, 0, 0);
            }
            return true;
        }

        private boolean takeOne(Reader text, Valley valley, int depth) {
            int key = text.keyword();
            boolean bracket = text.isSign('(');
            if (!bracket && (key < NOT || key > COINS)) {
                return text.refuse(FAULT_TOKEN);
            }
            if (ones >= MOST_ONES || depth > MOST_WITHIN) {
                return text.refuse(FAULT_MANY);
            }
            ones++;
            if (!bracket && key != NOT) {
                return takePlain(text, valley, key);
            }
            text.step();
            if (!bracket) {
                if (!takeOne(text, valley, depth + 1)) {
                    return false;
                }
                addStep(NOT, 0, 0);
                return true;
            }
            if (!takeCond(text, valley, depth + 1)) {
                return false;
            }
            if (!text.isSign(')')) {
                return text.refuse(FAULT_TOKEN);
            }
            text.step();
            return true;
        }

        private boolean takePlain(Reader text, Valley valley, int key) {
            int with = 0;
            int compared = 0;
            if (key == HAS) {
                with = text.stepName(valley.factNames, valley.facts);
                if (with == NONE) {
                    return false;
                }
            } else if (key != LATE) {
                text.step();
                compared = text.value;
                if (!text.isSign('<') && !text.isSign('=') && !text.isSign('>')) {
                    return text.refuse(FAULT_TOKEN);
                }
                with = text.stepNumber(0, 999);
                if (with == NONE) {
                    return false;
                }
            }
            addStep(key, compared, with);
            text.step();
            return true;
        }

        private void addStep(int key, int compared, int with) {
            if (steps < MOST_STEPS) {
                word[steps] = key;
                sign[steps] = compared;
                number[steps] = with;
                steps++;
            }
        }

        /** The PEOPLE of whom it may be said, as bits. */
        int holdsFor(Ledger ledger) {
            int everybody = (1 << ledger.valley.people) - 1;
            int high = 0;
            for (int i = 0; i < steps; i++) {
                int key = word[i];
                if (key == NOT && high >= 1) {
                    pile[high - 1] ^= everybody;
                } else if (key == AND && high >= 2) {
                    high--;
                    pile[high - 1] &= pile[high];
                } else if (key == OR && high >= 2) {
                    high--;
                    pile[high - 1] |= pile[high];
                } else if (high < MOST_STEPS) {
                    pile[high] = plainFor(ledger, i);
                    high++;
                }
            }
            return high > 0 ? pile[0] : 0;
        }

        private int plainFor(Ledger ledger, int i) {
            int set = 0;
            for (int who = 0; who < ledger.valley.people; who++) {
                if (isPlainOf(ledger, who, i)) {
                    set |= 1 << who;
                }
            }
            return set;
        }

        private boolean isPlainOf(Ledger ledger, int who, int i) {
            if (word[i] == HAS) {
                return ledger.isKnown(who, number[i]);
            }
            if (word[i] == LATE) {
                return ledger.hasLate(who);
            }
            int sum = ledger.sumFor(who, word[i] - OWES);
            switch (sign[i]) {
                case '<': return sum < number[i];
                case '>': return sum > number[i];
                default: return sum == number[i];
            }
        }
    }

    /** What image() keeps. */
    private static final class Image {
        boolean kept;
        final Valley valley = new Valley();
        final Book book = new Book();
        final Sentence sentence = new Sentence();

        void keep(Valley valleyNow, Book bookNow, Sentence sentenceNow) {
            valley.copy(valleyNow);
            book.copy(bookNow);
            sentence.copy(sentenceNow);
            kept = true;
        }
    }
}
