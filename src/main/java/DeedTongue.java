/**
 * A tongue for agreements of money: texts of few words are read as FORMS, lived day by day between
 * two HOUSES, weighed over WORLDS to come, told back, made shorter and compared. The words in
 * capitals are those of the document; README.md tells how the class is used.
 */
public final class DeedTongue {

    public static final int NONE = -1;

    private static final int DAYS = 400;
    private static final int HOUSES = 8;
    private static final int THINGS = 6;
    private static final int THING_BOUND = 9999;
    private static final int NOT_SEEN = -10000;

    private static final int MAX_FORMS = 20;
    private static final int MAX_LIVES = 40;
    private static final int MAX_WORDS = 40;
    private static final int MAX_VALUES = 40;
    private static final int MAX_WITHIN = 11;
    private static final int MAX_STANDING = 40;
    private static final int MAX_PAYMENTS = 2000;
    private static final int MAX_DIGITS = 5;
    private static final int TAPE_ROOM = 400;
    private static final int FEED_BYTES = 20;

    // A FORM told back has at most two blanks a WORD more than its text had.
    private static final int OUT_ROOM = TAPE_ROOM + 2 * MAX_WORDS;

    private static final int FACTOR_BOUND = 1000000;
    private static final int NO_PAYMENT = -10000000;
    private static final long NO_GIFT = -1000000000000L;
    private static final long NO_WORTH = -1000000000000000000L;

    private static final int MAX_WAYS = 3;
    private static final int MAX_WEIGHT = 4;
    private static final int MAX_ADD = 99;
    private static final int MAX_AHEAD = 4;
    private static final int NOT_PARTED = -2;

    // The kinds of WORDS, as word() tells them.
    private static final int NOTHING = 0;
    private static final int ONE = 1;
    private static final int GIVE = 2;
    private static final int BOTH = 3;
    private static final int OR = 4;
    private static final int THEN = 5;
    private static final int WHEN = 6;
    private static final int ANYTIME = 7;
    private static final int UNTIL = 8;
    private static final int SCALE = 9;
    private static final int CAP = 10;
    private static final int KINDS = 11;

    // The kinds' names in order of their numbers, each filled up with blanks to the same width.
    private static final String NAMES = "nothing one     give    both    or      then    when    anytime until   scale   cap     ";
    private static final int NAME_WIDTH = 8;

    // What is held of each WORD of a FORM.
    private static final int AT_KIND = 0;
    private static final int AT_DEPTH = 1;
    private static final int AT_NUMBER = 2;
    private static final int AT_FIRST = 3;
    private static final int AT_SECOND = 4;
    // VALUES: the left SUM is LEFT to MIDDLE, the right one MIDDLE to CLOSE (a scale has a left one alone).
    private static final int AT_LEFT = 5;
    private static final int AT_MIDDLE = 6;
    private static final int AT_CLOSE = 7;
    private static final int AT_SIGN = 8;
    // What a WORD has from those around it; only its FACTOR is not known from the text.
    private static final int AT_LIMIT = 9;
    private static final int AT_SIDE = 10;
    private static final int AT_UNTIL = 11;
    private static final int AT_UNTILS = 12;
    private static final int FIELDS = 13;

    // A SIGN is the set of the outcomes for which its TEST holds.
    private static final int LESS = 1;
    private static final int EQUAL = 2;
    private static final int MORE = 4;

    // A VALUE is a NUMBER (0 or more), the day, or FIRST_THING less the THING.
    private static final int THE_DAY = -1;
    private static final int FIRST_THING = -2;

    private static final int FAULT_SIGN = 0;
    private static final int FAULT_DIGITS = 1;
    private static final int FAULT_WITHIN = 2;
    private static final int FAULT_WORDS = 3;
    private static final int FAULT_VALUES = 4;

    // What is held of each PAYMENT: LIFE, DAY, coins and WORD, as payment() tells them, and both HOUSES.
    private static final int PAID_LIFE = 0;
    private static final int PAID_DATE = 1;
    private static final int PAID_COINS = 2;
    private static final int PAID_WORD = 3;
    private static final int PAID_FIRST = 4;
    private static final int PAID_SECOND = 5;
    private static final int PAID_FIELDS = 6;

    // What worth() tells: MEAN, LEAST, what is between is MOST, and all WEIGHTS.
    private static final int MEAN = 0;
    private static final int LEAST = 1;
    private static final int ALL_WEIGHTS = 3;

    private final Chronicle chronicle = new Chronicle();
    private final Text tape = new Text(TAPE_ROOM);
    private final Text out = new Text(OUT_ROOM);
    private final Form[] forms = new Form[MAX_FORMS];
    private final Form draft = new Form(MAX_WORDS, MAX_VALUES);
    private final Form other = new Form(MAX_WORDS, MAX_VALUES);
    private final Reader reader = new Reader(tape, draft);
    private final Teller teller = new Teller(out);
    private final Laws laws = new Laws();
    private final Ledger ledger = new Ledger();
    private final Court court = new Court(chronicle.today, ledger);
    private final Worlds worlds = new Worlds(chronicle.today);
    private int formCount;

    public DeedTongue() {
    }

    public boolean see(int thing, int day, int v) {
        return chronicle.write(thing, day, v);
    }

    public int seen(int thing, int day) {
        return chronicle.read(thing, day);
    }

    public int feed(int a, int b, int c, int d, int e) {
        if (tape.size() + FEED_BYTES > TAPE_ROOM) {
            return NONE;
        }
        tape.putNumber(a);
        tape.putNumber(b);
        tape.putNumber(c);
        tape.putNumber(d);
        tape.putNumber(e);
        return tape.size();
    }

    public int end(int n) {
        if (n < 0 || n > tape.size()) {
            return NONE;
        }
        tape.cut(n);
        return n;
    }

    public int form() {
        if (formCount >= MAX_FORMS) {
            return NONE;
        }
        int fault = reader.readTape();
        tape.cut(0);
        return fault > 0 ? -2 - fault : keepDraft();
    }

    public int word(int form, int k, int what) {
        Form found = formAt(form);
        if (found == null || what < 0 || what > 2) {
            return NONE;
        }
        if (what == 0) {
            return found.field(k, AT_KIND);
        }
        return found.field(k, what == 1 ? AT_DEPTH : AT_NUMBER);
    }

    public int words(int form) {
        Form found = formAt(form);
        return found == null ? NONE : found.size();
    }

    public int shorter(int form) {
        Form found = formAt(form);
        if (found == null || formCount >= MAX_FORMS) {
            return NONE;
        }
        laws.shorten(found, draft);
        return keepDraft();
    }

    public int same(int a, int b) {
        Form one = formAt(a);
        Form two = formAt(b);
        if (one == null || two == null) {
            return NONE;
        }
        laws.shorten(one, draft);
        laws.shorten(two, other);
        return laws.sameEitherWay(draft, other) ? 1 : 0;
    }

    public int tell(int form) {
        Form found = formAt(form);
        if (found == null) {
            return NONE;
        }
        teller.write(found);
        return out.size();
    }

    public int octet(int i) {
        return out.at(i);
    }

    public int begin(int form, int first, int second) {
        Form found = formAt(form);
        if (found == null || !isHouse(first) || !isHouse(second) || first == second) {
            return NONE;
        }
        return court.open(found, first, second);
    }

    public int day() {
        if (!chronicle.turn()) {
            return NONE;
        }
        int before = ledger.size();
        for (int life = 0; life < MAX_LIVES; life++) {
            court.wake(court.lifeAt(life));
        }
        return ledger.size() - before;
    }

    public int stands(int life) {
        Life found = court.lifeAt(life);
        return found == null ? NONE : found.size();
    }

    public int standing(int life, int k, int what) {
        Life found = court.lifeAt(life);
        return found == null ? NONE : found.about(k, what, chronicle.today);
    }

    public int choose(int life, int k, int house, int which) {
        if (which != 0 && which != 1) {
            return NONE;
        }
        return court.decide(life, k, house, OR, which);
    }

    public int take(int life, int k, int house) {
        return court.decide(life, k, house, ANYTIME, 0);
    }

    public int payment(int k, int what) {
        if (what < PAID_LIFE || what > PAID_WORD) {
            return NO_PAYMENT;
        }
        return ledger.entry(k, what);
    }

    public long got(int life) {
        Life found = court.lifeAt(life);
        return found == null ? 0 : found.gained;
    }

    public int net(int day) {
        if (day < 0 || day >= DAYS) {
            return NONE;
        }
        return ledger.settle(day);
    }

    public long netted(int k, int what) {
        return ledger.settled(k, what);
    }

    public boolean ways(int n) {
        if (n < 1 || n > MAX_WAYS) {
            return false;
        }
        worlds.renew(n);
        return true;
    }

    public boolean weight(int way, int w) {
        return worlds.weigh(way, w);
    }

    public boolean adds(int way, int thing, int v) {
        return worlds.shift(way, thing, v);
    }

    public long worth(int form, int n, int what) {
        Form found = formAt(form);
        if (found == null || !isAhead(n) || what < MEAN || what > ALL_WEIGHTS) {
            return NO_WORTH;
        }
        return what == ALL_WEIGHTS ? worlds.power(n) : worlds.judge(found, n, what);
    }

    public int comeTo(int form, int n, int k) {
        Form found = formAt(form);
        if (found == null || !isAhead(n) || k < 0 || k >= found.size()) {
            return NONE;
        }
        return worlds.finds(found, n, k) ? 1 : 0;
    }

    public int parted(int a, int b, int n) {
        Form one = formAt(a);
        Form two = formAt(b);
        if (one == null || two == null || !isAhead(n) || one.hasChoices() || two.hasChoices()) {
            return NONE;
        }
        worlds.start(one, n);
        return worlds.firstParting(one, two, 0, 0);
    }

    public int count(int what) {
        switch (what) {
            case 0:
                return chronicle.today.date;
            case 1:
                return formCount;
            case 2:
                return court.size();
            case 3:
                return ledger.size();
            case 4:
                return tape.size();
            case 5:
                return out.size();
            case 6:
                return worlds.size();
            case 7:
                return ledger.lost;
            default:
                return NONE;
        }
    }

    private Form formAt(int form) {
        return form >= 0 && form < formCount && form < MAX_FORMS ? forms[form] : null;
    }

    private int keepDraft() {
        if (formCount >= MAX_FORMS) {
            return NONE;
        }
        forms[formCount] = draft.copyToSize();
        formCount++;
        return formCount - 1;
    }

    private static boolean isHouse(int house) {
        return house >= 0 && house < HOUSES;
    }

    private static boolean isAhead(int n) {
        return n >= 1 && n <= MAX_AHEAD;
    }

    private static boolean isDigit(int b) {
        return b >= '0' && b <= '9';
    }

    private static boolean isLetter(int b) {
        return b >= 'a' && b <= 'z';
    }

    private static boolean hasNumber(int kind) {
        return kind == THEN || kind == CAP;
    }

    private static boolean hasTest(int kind) {
        return kind == WHEN || kind == ANYTIME || kind == UNTIL;
    }

    private static boolean hasSum(int kind) {
        return kind == SCALE || hasTest(kind);
    }

    private static boolean hasPair(int kind) {
        return kind == BOTH || kind == OR || kind == THEN;
    }

    private static boolean hasDeed(int kind) {
        return kind != NOTHING && kind != ONE;
    }

    /** One letter of the name of a kind; a blank behind its end. */
    private static int nameLetter(int kind, int i) {
        if (kind < 0 || kind >= KINDS || i < 0 || i >= NAME_WIDTH) {
            return ' ';
        }
        int at = kind * NAME_WIDTH + i;
        return at < NAMES.length() ? NAMES.charAt(at) : ' ';
    }

    /** One DAY with what the THINGS are on it, in what was seen or in a WORLD. */
    private static final class Scene {
        private final int[] things = new int[THINGS];
        private int date;

        int valueOf(int value) {
            if (value >= 0) {
                return value;
            }
            int thing = FIRST_THING - value;
            return thing >= 0 && thing < THINGS ? things[thing] : date;
        }

        void setThing(int thing, int v) {
            if (thing >= 0 && thing < THINGS) {
                things[thing] = v;
            }
        }

        void addThing(int thing, int v) {
            if (thing >= 0 && thing < THINGS) {
                things[thing] += v;
            }
        }

        void copyFrom(Scene from) {
            for (int i = 0; i < THINGS; i++) {
                things[i] = from.things[i];
            }
            date = from.date;
        }
    }

    /** What was told of the THINGS, and NOW. */
    private static final class Chronicle {
        // What was told is held above 0 so that a new row says that nothing was.
        private final int[] told = new int[THINGS * DAYS];
        private final Scene today = new Scene();

        boolean write(int thing, int date, int v) {
            if (thing < 0 || thing >= THINGS || date < 0 || date >= DAYS || date > today.date) {
                return false;
            }
            if (v < -THING_BOUND || v > THING_BOUND) {
                return false;
            }
            told[thing * DAYS + date] = v - NOT_SEEN;
            today.setThing(thing, read(thing, today.date));
            return true;
        }

        int read(int thing, int date) {
            if (thing < 0 || thing >= THINGS || date < 0 || date >= DAYS) {
                return NOT_SEEN;
            }
            for (int d = date; d >= 0; d--) {
                int v = told[thing * DAYS + d];
                if (v > 0) {
                    return v + NOT_SEEN;
                }
            }
            return 0;
        }

        /** The THINGS stay as they are, for nothing can be told yet of a DAY that begins. */
        boolean turn() {
            if (today.date >= DAYS - 1) {
                return false;
            }
            today.date++;
            return true;
        }
    }

    /** Bytes one behind the other, with room for so many. */
    private static final class Text {
        private final byte[] bytes;
        private int length;

        Text(int room) {
            bytes = new byte[Math.max(room, 0)];
        }

        int size() {
            return length;
        }

        int at(int i) {
            return i >= 0 && i < length && i < bytes.length ? bytes[i] & 255 : NONE;
        }

        void put(int b) {
            if (length >= 0 && length < bytes.length) {
                bytes[length] = (byte) b;
                length++;
            }
        }

        void putNumber(int n) {
            for (int shift = 24; shift >= 0; shift -= 8) {
                put(n >> shift);
            }
        }

        void cut(int n) {
            if (n >= 0 && n <= length) {
                length = n;
            }
        }
    }

    /** A DEED as a row of WORDS, each with its fields, and a row of VALUES. */
    private static final class Form {
        private final int[] cells;
        private final int[] parts;
        private int size;
        private int values;

        Form(int words, int values) {
            cells = new int[Math.max(words, 0) * FIELDS];
            parts = new int[Math.max(values, 0) * 2];
        }

        int size() {
            return size;
        }

        int valueCount() {
            return values;
        }

        void clear() {
            size = 0;
            values = 0;
        }

        int field(int word, int field) {
            if (word < 0 || word >= size || field < 0 || field >= FIELDS) {
                return NONE;
            }
            int at = word * FIELDS + field;
            return at < cells.length ? cells[at] : NONE;
        }

        void setField(int word, int field, int v) {
            if (word < 0 || word >= size || field < 0 || field >= FIELDS) {
                return;
            }
            int at = word * FIELDS + field;
            if (at < cells.length) {
                cells[at] = v;
            }
        }

        /**
         * A WORD more, the next DEED of the one around it (NONE: it is WORD 0); NONE without room. As none is
         * within more than 11 others, whatever goes through a FORM from WORD to DEED goes no deeper.
         */
        int grow(int kind, int around) {
            int word = size;
            if (word < 0 || (word + 1) * FIELDS > cells.length || field(around, AT_DEPTH) >= MAX_WITHIN) {
                return NONE;
            }
            size++;
            for (int field = 0; field < FIELDS; field++) {
                setField(word, field, NONE);
            }
            setField(word, AT_KIND, kind);
            setField(word, AT_DEPTH, 0);
            setField(word, AT_SIDE, 0);
            setField(word, AT_UNTILS, 0);
            if (around >= 0 && around < word) {
                inherit(word, around);
            }
            return word;
        }

        private void inherit(int word, int around) {
            int kind = field(around, AT_KIND);
            int side = field(around, AT_SIDE);
            int limit = field(around, AT_LIMIT);
            int number = field(around, AT_NUMBER);
            setField(around, field(around, AT_FIRST) == NONE ? AT_FIRST : AT_SECOND, word);
            setField(word, AT_DEPTH, field(around, AT_DEPTH) + 1);
            setField(word, AT_SIDE, kind == GIVE ? 1 - side : side);
            if (kind == CAP) {
                limit = limit == NONE ? number : Math.min(limit, number);
            }
            setField(word, AT_LIMIT, limit);
            setField(word, AT_UNTIL, kind == UNTIL ? around : field(around, AT_UNTIL));
            setField(word, AT_UNTILS, field(around, AT_UNTILS) + (kind == UNTIL ? 1 : 0));
        }

        boolean addValue(int joint, int value) {
            int at = values * 2;
            if (at < 0 || at + 1 >= parts.length) {
                return false;
            }
            parts[at] = joint;
            parts[at + 1] = value;
            values++;
            return true;
        }

        /** The sign ahead of a VALUE: + - or *, a + ahead of the first of a SUM. */
        int joint(int value) {
            int at = value * 2;
            return value >= 0 && value < values && at < parts.length ? parts[at] : NONE;
        }

        int value(int value) {
            int at = value * 2 + 1;
            return value >= 0 && value < values && at < parts.length ? parts[at] : NONE;
        }

        /** A product takes the sign ahead of its first VALUE along. */
        private long sum(int from, int to, Scene scene) {
            long total = 0;
            long product = 0;
            for (int i = Math.max(from, 0); i < to && i < values; i++) {
                long v = scene.valueOf(value(i));
                if (joint(i) == '*') {
                    product *= v;
                } else {
                    total += product;
                    product = joint(i) == '-' ? -v : v;
                }
            }
            return total + product;
        }

        boolean holds(int word, Scene scene) {
            int middle = field(word, AT_MIDDLE);
            long left = sum(field(word, AT_LEFT), middle, scene);
            long right = sum(middle, field(word, AT_CLOSE), scene);
            int outcome = left < right ? LESS : left == right ? EQUAL : MORE;
            int sign = field(word, AT_SIGN);
            return sign > 0 && (sign & outcome) != 0;
        }

        boolean lapsed(int word, Scene scene) {
            int until = field(word, AT_UNTIL);
            for (int i = 0; i < MAX_WORDS && until >= 0; i++) {
                if (holds(until, scene)) {
                    return true;
                }
                until = field(until, AT_UNTIL);
            }
            return false;
        }

        /** The FACTOR with which the DEED of a WORD is ACQUIRED. */
        int passed(int word, int factor, Scene scene) {
            int kind = field(word, AT_KIND);
            if (kind == GIVE) {
                return -factor;
            }
            if (kind != SCALE) {
                return factor;
            }
            long scaled = factor * sum(field(word, AT_LEFT), field(word, AT_MIDDLE), scene);
            return (int) Math.max(-FACTOR_BOUND, Math.min(FACTOR_BOUND, scaled));
        }

        int held(int word, int factor) {
            int limit = field(word, AT_LIMIT);
            return limit == NONE ? factor : Math.max(-limit, Math.min(limit, factor));
        }

        /** The DEED that is ACQUIRED with a WORD that has no choice and waits for nothing. */
        int nextDeed(int word, Scene scene) {
            boolean late = field(word, AT_KIND) == THEN && scene.date >= field(word, AT_NUMBER);
            return field(word, late ? AT_SECOND : AT_FIRST);
        }

        boolean hasChoices() {
            for (int word = 0; word < size; word++) {
                int kind = field(word, AT_KIND);
                if (kind == OR || kind == ANYTIME) {
                    return true;
                }
            }
            return false;
        }

        Form copyToSize() {
            Form copy = new Form(size, values);
            copy.size = size;
            copy.values = values;
            for (int i = 0; i < copy.cells.length && i < cells.length; i++) {
                copy.cells[i] = cells[i];
            }
            for (int i = 0; i < copy.parts.length && i < parts.length; i++) {
                copy.parts[i] = parts[i];
            }
            return copy;
        }
    }

    /** Reads the TAPE into a draft, up to its first FAULT. */
    private static final class Reader {
        private final Text text;
        private final Form draft;
        private int place;
        private int fault;

        Reader(Text text, Form draft) {
            this.text = text;
            this.draft = draft;
        }

        /** The FAULT; 0 without one. */
        int readTape() {
            place = 0;
            fault = 0;
            draft.clear();
            if (readDeed(NONE, 0) && upNext() != NONE) {
                fail(place, FAULT_SIGN);
            }
            return fault;
        }

        /** Of two FAULTS the one of the lesser number is the first along the text, and of one place the least. */
        private boolean fail(int at, int kind) {
            int found = 1 + 8 * at + kind;
            fault = fault == 0 ? found : Math.min(fault, found);
            return false;
        }

        /** The next byte that is no blank; NONE at the end. */
        private int upNext() {
            for (int i = 0; i < TAPE_ROOM && text.at(place) == ' '; i++) {
                place++;
            }
            return text.at(place);
        }

        private boolean readSign(int sign) {
            if (upNext() != sign) {
                return fail(place, FAULT_SIGN);
            }
            place++;
            return true;
        }

        private int lettersFrom(int start) {
            int length = 0;
            while (length < TAPE_ROOM && isLetter(text.at(start + length))) {
                length++;
            }
            return length;
        }

        private boolean isNamed(int kind, int start, int length) {
            if (length >= NAME_WIDTH) {
                return false;
            }
            for (int i = 0; i < length; i++) {
                if (nameLetter(kind, i) != text.at(start + i)) {
                    return false;
                }
            }
            return length > 0 && nameLetter(kind, length) == ' ';
        }

        private int kindFrom(int start, int length) {
            for (int kind = 0; kind < KINDS; kind++) {
                if (isNamed(kind, start, length)) {
                    return kind;
                }
            }
            return NONE;
        }

        private boolean readDeed(int around, int within) {
            upNext();
            int start = place;
            int length = lettersFrom(start);
            int kind = kindFrom(start, length);
            if (kind == NONE) {
                return fail(start, FAULT_SIGN);
            }
            if (within > MAX_WITHIN) {
                return fail(start, FAULT_WITHIN);
            }
            int word = draft.grow(kind, around);
            if (word == NONE) {
                return fail(start, FAULT_WORDS);
            }
            place = start + length;
            if (hasNumber(kind) && !readN(word)) {
                return false;
            }
            if (hasSum(kind) && !readSums(kind, word)) {
                return false;
            }
            return readDeeds(kind, word, within);
        }

        private boolean readDeeds(int kind, int word, int within) {
            if (!hasDeed(kind)) {
                return true;
            }
            if (!hasPair(kind)) {
                return readDeed(word, within + 1);
            }
            return readSign('(') && readDeed(word, within + 1)
                    && readSign(',') && readDeed(word, within + 1) && readSign(')');
        }

        private boolean readN(int word) {
            upNext();
            int number = readNumber();
            draft.setField(word, AT_NUMBER, number);
            return number != NONE;
        }

        /** The NUMBER that begins at the place; NONE, with its FAULT, without one. */
        private int readNumber() {
            int start = place;
            int number = 0;
            int digits = 0;
            while (digits < TAPE_ROOM && isDigit(text.at(start + digits))) {
                // Digits beyond the fifth are counted alone, so that the number can't go round.
                number = digits < MAX_DIGITS ? number * 10 + text.at(start + digits) - '0' : number;
                digits++;
            }
            if (digits == 0 || digits > MAX_DIGITS) {
                fail(start, digits == 0 ? FAULT_SIGN : FAULT_DIGITS);
                return NONE;
            }
            place = start + digits;
            return number;
        }

        /** A TEST or the SUM of a scale, and the sign behind it. */
        private boolean readSums(int kind, int word) {
            draft.setField(word, AT_LEFT, draft.valueCount());
            if (!readSum()) {
                return false;
            }
            draft.setField(word, AT_MIDDLE, draft.valueCount());
            if (hasTest(kind) && (!readRelation(word) || !readSum())) {
                return false;
            }
            draft.setField(word, AT_CLOSE, draft.valueCount());
            return readSign(':');
        }

        private boolean readRelation(int word) {
            int b = upNext();
            int sign = b == '<' ? LESS : b == '>' ? MORE : b == '=' ? EQUAL : 0;
            if (sign == 0) {
                return fail(place, FAULT_SIGN);
            }
            place++;
            if (sign != EQUAL && text.at(place) == '=') {
                sign |= EQUAL;
                place++;
            }
            draft.setField(word, AT_SIGN, sign);
            return true;
        }

        private boolean readSum() {
            int joint = '+';
            for (int i = 0; i <= MAX_VALUES; i++) {
                if (!readValue(joint)) {
                    return false;
                }
                joint = upNext();
                if (joint != '+' && joint != '-' && joint != '*') {
                    return true;
                }
                place++;
            }
            return fail(place, FAULT_VALUES);
        }

        private boolean readValue(int joint) {
            int b = upNext();
            int start = place;
            int value = NONE;
            if (isDigit(b)) {
                value = readNumber();
            } else if (isLetter(b)) {
                value = readNamedValue(lettersFrom(start));
            } else {
                fail(start, FAULT_SIGN);
            }
            // A VALUE that goes wrong behind its first byte is counted too: as the 41st its FAULT is the first.
            if (!draft.addValue(joint, value)) {
                fail(start, FAULT_VALUES);
            }
            return fault == 0;
        }

        /** The day or a THING; NONE, with its FAULT, for another WORD. */
        private int readNamedValue(int length) {
            int start = place;
            if (length == 3 && text.at(start) == 'd' && text.at(start + 1) == 'a' && text.at(start + 2) == 'y') {
                place = start + length;
                return THE_DAY;
            }
            if (length != 1 || text.at(start) != 's') {
                fail(start, FAULT_SIGN);
                return NONE;
            }
            int thing = text.at(start + 1) - '0';
            if (thing < 0 || thing >= THINGS) {
                fail(start + 1, FAULT_SIGN);
                return NONE;
            }
            place = start + 2;
            return FIRST_THING - thing;
        }
    }

    /** Tells a FORM back into OUT. */
    private static final class Teller {
        private final Text out;

        Teller(Text out) {
            this.out = out;
        }

        void write(Form form) {
            out.cut(0);
            writeDeed(form, 0, 0);
        }

        private void writeDeed(Form form, int word, int within) {
            int kind = form.field(word, AT_KIND);
            if (kind == NONE || within > MAX_WITHIN) {
                return;
            }
            writeName(kind);
            writeHead(form, word, kind);
            if (hasPair(kind)) {
                out.put('(');
                writeDeed(form, form.field(word, AT_FIRST), within + 1);
                out.put(',');
                writeDeed(form, form.field(word, AT_SECOND), within + 1);
                out.put(')');
            } else if (hasDeed(kind)) {
                writeDeed(form, form.field(word, AT_FIRST), within + 1);
            }
        }

        private void writeHead(Form form, int word, int kind) {
            int middle = form.field(word, AT_MIDDLE);
            if (hasNumber(kind)) {
                gap();
                writeNumber(form.field(word, AT_NUMBER));
            }
            if (hasSum(kind)) {
                writeSum(form, form.field(word, AT_LEFT), middle);
            }
            if (hasTest(kind)) {
                writeRelation(form.field(word, AT_SIGN));
                writeSum(form, middle, form.field(word, AT_CLOSE));
            }
            if (hasSum(kind)) {
                out.put(':');
            }
        }

        /** A blank behind a WORD, a NUMBER or a THING, where the next one would run into it. */
        private void gap() {
            int last = out.at(out.size() - 1);
            if (isLetter(last) || isDigit(last)) {
                out.put(' ');
            }
        }

        private void writeName(int kind) {
            gap();
            for (int i = 0; i < NAME_WIDTH && nameLetter(kind, i) != ' '; i++) {
                out.put(nameLetter(kind, i));
            }
        }

        private void writeNumber(int number) {
            int unit = 1;
            for (int i = 1; i < MAX_DIGITS && unit > 0 && number / unit >= 10; i++) {
                unit *= 10;
            }
            for (int i = 0; i < MAX_DIGITS && unit > 0; i++) {
                out.put('0' + number / unit % 10);
                unit /= 10;
            }
        }

        private void writeRelation(int sign) {
            if ((sign & LESS) != 0) {
                out.put('<');
            }
            if ((sign & MORE) != 0) {
                out.put('>');
            }
            if ((sign & EQUAL) != 0) {
                out.put('=');
            }
        }

        private void writeSum(Form form, int from, int to) {
            for (int i = Math.max(from, 0); i < to && i < form.valueCount(); i++) {
                if (i > from) {
                    out.put(form.joint(i));
                }
                writeValue(form.value(i));
            }
        }

        private void writeValue(int value) {
            gap();
            if (value >= 0) {
                writeNumber(value);
            } else if (value == THE_DAY) {
                out.put('d');
                out.put('a');
                out.put('y');
            } else {
                out.put('s');
                out.put('0' + FIRST_THING - value);
            }
        }
    }

    /** Makes FORMS SHORTER and finds them ALIKE. */
    private static final class Laws {
        private final Form work = new Form(MAX_WORDS, MAX_VALUES);
        // The WORD that a WORD has become by the LAWS.
        private final int[] became = new int[MAX_WORDS];

        /** WORDS within a WORD have higher numbers, so that going down goes from the inner ones outwards. */
        void shorten(Form from, Form to) {
            work.clear();
            copyDeed(from, 0, work, NONE);
            for (int word = Math.min(work.size(), MAX_WORDS) - 1; word >= 0; word--) {
                follow(word, AT_FIRST);
                follow(word, AT_SECOND);
                became[word] = apply(word);
            }
            to.clear();
            copyDeed(work, became[0], to, NONE);
        }

        boolean sameEitherWay(Form one, Form two) {
            return alike(one, 0, two, 0, true);
        }

        private void follow(int word, int field) {
            int deed = work.field(word, field);
            if (deed >= 0 && deed < MAX_WORDS) {
                work.setField(word, field, became[deed]);
            }
        }

        /** What a WORD becomes, whose DEEDS are as short as they can be. */
        private int apply(int word) {
            int first = work.field(word, AT_FIRST);
            int second = work.field(word, AT_SECOND);
            int inner = work.field(first, AT_KIND);
            switch (work.field(word, AT_KIND)) {
                case NOTHING:
                case ONE:
                    return word;
                case GIVE:
                    return inner == NOTHING ? first : inner == GIVE ? work.field(first, AT_FIRST) : word;
                case BOTH:
                    return inner == NOTHING ? second : work.field(second, AT_KIND) == NOTHING ? first : word;
                case OR:
                case THEN:
                    return alike(work, first, work, second, false) ? first : word;
                case SCALE:
                    return inner == NOTHING ? first : scaleLaw(word, first);
                case CAP:
                    return inner == CAP ? capLaw(word, first) : inner == NOTHING ? first : word;
                default:
                    return inner == NOTHING ? first : word;
            }
        }

        private int scaleLaw(int word, int first) {
            int left = work.field(word, AT_LEFT);
            if (work.field(word, AT_MIDDLE) - left != 1) {
                return word;
            }
            int value = work.value(left);
            if (value == 0) {
                makeNothing(word);
            }
            return value == 1 ? first : word;
        }

        /** Nothing is left of its SUM, so that it is ALIKE any other nothing. */
        private void makeNothing(int word) {
            work.setField(word, AT_KIND, NOTHING);
            work.setField(word, AT_LEFT, NONE);
            work.setField(word, AT_MIDDLE, NONE);
            work.setField(word, AT_CLOSE, NONE);
        }

        private int capLaw(int word, int first) {
            int lesser = Math.min(work.field(word, AT_NUMBER), work.field(first, AT_NUMBER));
            work.setField(first, AT_NUMBER, lesser);
            return first;
        }

        private static void copyDeed(Form from, int word, Form to, int around) {
            int kind = from.field(word, AT_KIND);
            if (kind == NONE) {
                return;
            }
            int copy = to.grow(kind, around);
            if (copy == NONE) {
                return;
            }
            to.setField(copy, AT_NUMBER, from.field(word, AT_NUMBER));
            if (hasSum(kind)) {
                copySums(from, word, to, copy);
            }
            if (hasDeed(kind)) {
                copyDeed(from, from.field(word, AT_FIRST), to, copy);
            }
            if (hasPair(kind)) {
                copyDeed(from, from.field(word, AT_SECOND), to, copy);
            }
        }

        private static void copySums(Form from, int word, Form to, int copy) {
            int left = from.field(word, AT_LEFT);
            int close = from.field(word, AT_CLOSE);
            int start = to.valueCount();
            for (int i = Math.max(left, 0); i < close && i < from.valueCount(); i++) {
                to.addValue(from.joint(i), from.value(i));
            }
            to.setField(copy, AT_LEFT, start);
            to.setField(copy, AT_MIDDLE, start + from.field(word, AT_MIDDLE) - left);
            to.setField(copy, AT_CLOSE, start + close - left);
            to.setField(copy, AT_SIGN, from.field(word, AT_SIGN));
        }

        /** Goes no deeper than the WORDS of a FORM stand within one another. */
        private static boolean alike(Form a, int v, Form b, int w, boolean eitherWay) {
            int kind = a.field(v, AT_KIND);
            if (kind == NONE || kind != b.field(w, AT_KIND) || !headsAlike(a, v, b, w)) {
                return false;
            }
            if (!hasDeed(kind)) {
                return true;
            }
            int first = a.field(v, AT_FIRST);
            int second = a.field(v, AT_SECOND);
            int left = b.field(w, AT_FIRST);
            int right = b.field(w, AT_SECOND);
            if (!hasPair(kind)) {
                return alike(a, first, b, left, eitherWay);
            }
            if (alike(a, first, b, left, eitherWay) && alike(a, second, b, right, eitherWay)) {
                return true;
            }
            return eitherWay && kind == BOTH
                    && alike(a, first, b, right, true) && alike(a, second, b, left, true);
        }

        private static boolean headsAlike(Form a, int v, Form b, int w) {
            int from = a.field(v, AT_LEFT);
            int start = b.field(w, AT_LEFT);
            int length = a.field(v, AT_CLOSE) - from;
            if (a.field(v, AT_NUMBER) != b.field(w, AT_NUMBER)
                    || a.field(v, AT_SIGN) != b.field(w, AT_SIGN)
                    || a.field(v, AT_MIDDLE) - from != b.field(w, AT_MIDDLE) - start
                    || length != b.field(w, AT_CLOSE) - start) {
                return false;
            }
            for (int i = 0; i < length; i++) {
                if (a.joint(from + i) != b.joint(start + i) || a.value(from + i) != b.value(start + i)) {
                    return false;
                }
            }
            return true;
        }
    }

    /** A FORM between two HOUSES, with what STANDS of it. */
    private static final class Life {
        private final Form form;
        private final int number;
        private final int first;
        private final int second;
        private final int[] stood = new int[MAX_STANDING];
        private final int[] factors = new int[MAX_STANDING];
        private int size;
        private long gained;

        Life(Form form, int number, int first, int second) {
            this.form = form;
            this.number = number;
            this.first = first;
            this.second = second;
        }

        int size() {
            return size;
        }

        boolean stand(int word, int factor) {
            if (size < 0 || size >= MAX_STANDING) {
                return false;
            }
            stood[size] = word;
            factors[size] = factor;
            size++;
            return true;
        }

        int wordAt(int k) {
            return k >= 0 && k < size && k < MAX_STANDING ? stood[k] : NONE;
        }

        int factorAt(int k) {
            return k >= 0 && k < size && k < MAX_STANDING ? factors[k] : 0;
        }

        void drop(int k) {
            if (k < 0 || k >= size || size > MAX_STANDING) {
                return;
            }
            for (int i = k; i + 1 < size; i++) {
                stood[i] = stood[i + 1];
                factors[i] = factors[i + 1];
            }
            size--;
        }

        int chooser(int word) {
            return form.field(word, AT_SIDE) == 0 ? first : second;
        }

        /** As standing() tells it. */
        int about(int k, int what, Scene scene) {
            int word = wordAt(k);
            if (word == NONE) {
                return NONE;
            }
            switch (what) {
                case 0:
                    return word;
                case 1:
                    return form.field(word, AT_KIND);
                case 2:
                    return chooser(word);
                case 3:
                    return factorAt(k);
                case 4:
                    return form.field(word, AT_LIMIT);
                case 5:
                    return form.field(word, AT_UNTILS);
                case 6:
                    return form.field(word, AT_KIND) == OR || form.holds(word, scene) ? 1 : 0;
                default:
                    return NONE;
            }
        }
    }

    /** The LIVES, and what comes of them day by day. */
    private static final class Court {
        private final Life[] lives = new Life[MAX_LIVES];
        private final Scene today;
        private final Ledger ledger;
        private int size;

        Court(Scene today, Ledger ledger) {
            this.today = today;
            this.ledger = ledger;
        }

        int size() {
            return size;
        }

        Life lifeAt(int life) {
            return life >= 0 && life < size && life < MAX_LIVES ? lives[life] : null;
        }

        int open(Form form, int first, int second) {
            if (size < 0 || size >= MAX_LIVES) {
                return NONE;
            }
            Life life = new Life(form, size, first, second);
            lives[size] = life;
            size++;
            acquire(life, 0, 1, 0);
            return life.number;
        }

        private void acquire(Life life, int word, int factor, int within) {
            Form form = life.form;
            if (word < 0 || within > MAX_WITHIN || form.lapsed(word, today)) {
                return;
            }
            int kind = form.field(word, AT_KIND);
            switch (kind) {
                case NONE:
                case NOTHING:
                    return;
                case ONE:
                    ledger.pay(life, today.date, form.held(word, factor), word);
                    return;
                case OR:
                case ANYTIME:
                    keep(life, word, factor);
                    return;
                default:
                    break;
            }
            if (kind == WHEN && !form.holds(word, today)) {
                keep(life, word, factor);
                return;
            }
            int passed = form.passed(word, factor, today);
            acquire(life, form.nextDeed(word, today), passed, within + 1);
            if (kind == BOTH) {
                acquire(life, form.field(word, AT_SECOND), passed, within + 1);
            }
        }

        private void keep(Life life, int word, int factor) {
            if (!life.stand(word, factor)) {
                ledger.lost++;
            }
        }

        /** Looks at so many as STOOD: what goes makes room for the next, what is new is behind these. */
        void wake(Life life) {
            if (life == null) {
                return;
            }
            int k = 0;
            for (int left = Math.min(life.size(), MAX_STANDING); left > 0; left--) {
                if (rests(life, life.wordAt(k))) {
                    k++;
                } else {
                    enter(life, k, AT_FIRST);
                }
            }
        }

        private boolean rests(Life life, int word) {
            int kind = life.form.field(word, AT_KIND);
            if (kind == OR || life.form.lapsed(word, today)) {
                return false;
            }
            return kind != WHEN || !life.form.holds(word, today);
        }

        /** What STANDS goes, and its DEED is ACQUIRED, which comes to nothing if it is LAPSED. */
        private void enter(Life life, int k, int field) {
            int word = life.wordAt(k);
            int factor = life.factorAt(k);
            life.drop(k);
            acquire(life, life.form.field(word, field), factor, 0);
        }

        /** As choose() and take() tell it, of an or and of an anytime. */
        int decide(int number, int k, int house, int kind, int which) {
            Life life = lifeAt(number);
            if (life == null) {
                return NONE;
            }
            Form form = life.form;
            int word = life.wordAt(k);
            if (word == NONE || form.field(word, AT_KIND) != kind || life.chooser(word) != house) {
                return NONE;
            }
            if (form.lapsed(word, today) || kind == ANYTIME && !form.holds(word, today)) {
                return NONE;
            }
            int before = ledger.size();
            enter(life, k, which == 0 ? AT_FIRST : AT_SECOND);
            return ledger.size() - before;
        }
    }

    /** The PAYMENTS, and the gifts of the DAY that was NETTED last. */
    private static final class Ledger {
        private int[] entries = new int[16 * PAID_FIELDS];
        private int size;
        private int lost;
        private final long[] gets = new long[HOUSES];
        private final long[] rest = new long[HOUSES];
        private final int[] givers = new int[HOUSES];
        private final int[] takers = new int[HOUSES];
        private final long[] amounts = new long[HOUSES];
        private int gifts = NONE;

        int size() {
            return size;
        }

        void pay(Life life, int date, int coins, int word) {
            if (coins == 0) {
                return;
            }
            if (size >= MAX_PAYMENTS) {
                lost++;
                return;
            }
            makeRoom();
            size++;
            int k = size - 1;
            set(k, PAID_LIFE, life.number);
            set(k, PAID_DATE, date);
            set(k, PAID_COINS, coins);
            set(k, PAID_WORD, word);
            set(k, PAID_FIRST, life.first);
            set(k, PAID_SECOND, life.second);
            life.gained += coins;
        }

        private void makeRoom() {
            if ((size + 1) * PAID_FIELDS <= entries.length) {
                return;
            }
            int[] wider = new int[Math.max((size + 1) * 2, 1) * PAID_FIELDS];
            for (int i = 0; i < entries.length && i < wider.length; i++) {
                wider[i] = entries[i];
            }
            entries = wider;
        }

        private void set(int k, int field, int v) {
            int at = k * PAID_FIELDS + field;
            if (at >= 0 && at < entries.length) {
                entries[at] = v;
            }
        }

        int entry(int k, int field) {
            if (k < 0 || k >= size || field < 0 || field >= PAID_FIELDS) {
                return NO_PAYMENT;
            }
            int at = k * PAID_FIELDS + field;
            return at < entries.length ? entries[at] : NO_PAYMENT;
        }

        int settle(int date) {
            for (int house = 0; house < HOUSES; house++) {
                gets[house] = 0;
            }
            for (int k = 0; k < size; k++) {
                if (entry(k, PAID_DATE) == date) {
                    book(entry(k, PAID_FIRST), entry(k, PAID_COINS));
                    book(entry(k, PAID_SECOND), -entry(k, PAID_COINS));
                }
            }
            for (int house = 0; house < HOUSES; house++) {
                rest[house] = gets[house];
            }
            gifts = 0;
            // Each gift leaves one HOUSE more with nothing to give or to get.
            for (int i = 0; i < HOUSES && addGift(); i++) {
                gifts++;
            }
            return gifts;
        }

        private void book(int house, int coins) {
            if (isHouse(house)) {
                gets[house] += coins;
            }
        }

        private boolean addGift() {
            int giver = leastHouse(-1);
            int taker = leastHouse(1);
            if (!isHouse(giver) || !isHouse(taker) || gifts < 0 || gifts >= HOUSES) {
                return false;
            }
            long amount = Math.min(-rest[giver], rest[taker]);
            rest[giver] += amount;
            rest[taker] -= amount;
            givers[gifts] = giver;
            takers[gifts] = taker;
            amounts[gifts] = amount;
            return true;
        }

        /** The least HOUSE that gets still (1), or gives still (-1). */
        private int leastHouse(int sign) {
            for (int house = 0; house < HOUSES; house++) {
                if (rest[house] * sign > 0) {
                    return house;
                }
            }
            return NONE;
        }

        /** As netted() tells it. */
        long settled(int k, int what) {
            if (gifts == NONE) {
                return NO_GIFT;
            }
            if (what >= 10 && what < 10 + HOUSES) {
                return gets[what - 10];
            }
            if (k < 0 || k >= gifts || k >= HOUSES) {
                return NO_GIFT;
            }
            switch (what) {
                case 0:
                    return givers[k];
                case 1:
                    return takers[k];
                case 2:
                    return amounts[k];
                default:
                    return NO_GIFT;
            }
        }
    }

    /** The WAYS, and what is told of FORMS over the WORLDS that they make. */
    private static final class Worlds {
        private int size = 1;
        private final int[] weights = new int[MAX_WAYS];
        private final int[] steps = new int[MAX_WAYS * THINGS];
        // The DAYS of a WORLD as far as it has come; the first is NOW.
        private final Scene[] path = new Scene[MAX_AHEAD + 1];
        private final long[] balance = new long[MAX_AHEAD + 1];
        private final Scene today;
        // An empty one at first, so that it is never null.
        private Form form = new Form(0, 0);
        private int ahead;
        private int goal;

        Worlds(Scene today) {
            this.today = today;
            for (int i = 0; i < path.length; i++) {
                path[i] = new Scene();
            }
            weights[0] = 1;
        }

        int size() {
            return size;
        }

        void renew(int n) {
            size = n;
            for (int way = 0; way < MAX_WAYS; way++) {
                weights[way] = 1;
            }
            for (int i = 0; i < steps.length; i++) {
                steps[i] = 0;
            }
        }

        boolean weigh(int way, int w) {
            if (way < 0 || way >= size || way >= MAX_WAYS || w < 1 || w > MAX_WEIGHT) {
                return false;
            }
            weights[way] = w;
            return true;
        }

        boolean shift(int way, int thing, int v) {
            if (way < 0 || way >= size || way >= MAX_WAYS || thing < 0 || thing >= THINGS) {
                return false;
            }
            if (v < -MAX_ADD || v > MAX_ADD) {
                return false;
            }
            steps[way * THINGS + thing] = v;
            return true;
        }

        private long weightOf(int way) {
            return way >= 0 && way < MAX_WAYS ? weights[way] : 0;
        }

        /** All WEIGHTS together, so often times themselves. */
        long power(int n) {
            long all = 0;
            for (int way = 0; way < size; way++) {
                all += weightOf(way);
            }
            long power = 1;
            for (int i = 0; i < n && i < MAX_AHEAD; i++) {
                power *= all;
            }
            return power;
        }

        /** NOW, where every WORLD begins. */
        void start(Form form, int n) {
            this.form = form;
            ahead = Math.min(n, MAX_AHEAD);
            path[0].copyFrom(today);
        }

        private Scene sceneAt(int step) {
            return path[Math.max(0, Math.min(step, MAX_AHEAD))];
        }

        /** The DAY behind a step comes by a WAY. */
        private void go(int step, int way) {
            Scene next = sceneAt(step + 1);
            next.copyFrom(sceneAt(step));
            next.date++;
            for (int thing = 0; thing < THINGS; thing++) {
                int at = way * THINGS + thing;
                if (at >= 0 && at < steps.length) {
                    next.addThing(thing, steps[at]);
                }
            }
        }

        /** MEAN, LEAST or MOST of WORD 0. */
        long judge(Form form, int n, int goal) {
            start(form, n);
            this.goal = goal;
            return value(0, 1, 0);
        }

        /** Goes as deep as WORDS stand within one another and DAYS lie ahead. */
        private long value(int word, int factor, int step) {
            Scene scene = sceneAt(step);
            if (word < 0 || form.lapsed(word, scene)) {
                return 0;
            }
            int kind = form.field(word, AT_KIND);
            switch (kind) {
                case NONE:
                case NOTHING:
                    return 0;
                case ONE:
                    return form.held(word, factor) * (goal == MEAN ? power(ahead - step) : 1);
                case BOTH:
                    return value(form.field(word, AT_FIRST), factor, step)
                            + value(form.field(word, AT_SECOND), factor, step);
                case OR:
                    return better(word, value(form.field(word, AT_FIRST), factor, step),
                            value(form.field(word, AT_SECOND), factor, step));
                case WHEN:
                    return form.holds(word, scene) ? deedValue(word, factor, step) : waiting(word, factor, step);
                case ANYTIME:
                    long later = waiting(word, factor, step);
                    return form.holds(word, scene) ? better(word, later, deedValue(word, factor, step)) : later;
                default:
                    return deedValue(word, factor, step);
            }
        }

        private long deedValue(int word, int factor, int step) {
            Scene scene = sceneAt(step);
            return value(form.nextDeed(word, scene), form.passed(word, factor, scene), step);
        }

        private long better(int word, long a, long b) {
            return form.field(word, AT_SIDE) == 0 ? Math.max(a, b) : Math.min(a, b);
        }

        private long waiting(int word, int factor, int step) {
            if (step >= ahead) {
                return 0;
            }
            long all = 0;
            for (int way = 0; way < size; way++) {
                go(step, way);
                long v = value(word, factor, step + 1);
                if (goal == MEAN) {
                    all += weightOf(way) * v;
                } else if (way == 0) {
                    all = v;
                } else {
                    all = goal == LEAST ? Math.min(all, v) : Math.max(all, v);
                }
            }
            return all;
        }

        /** Whether a WORD is COME TO. */
        boolean finds(Form form, int n, int target) {
            start(form, n);
            return reaches(0, target, 0);
        }

        private boolean reaches(int word, int target, int step) {
            Scene scene = sceneAt(step);
            if (word < 0 || form.lapsed(word, scene)) {
                return false;
            }
            if (word == target) {
                return true;
            }
            int second = form.field(word, AT_SECOND);
            int toward = second != NONE && target >= second ? second : form.field(word, AT_FIRST);
            switch (form.field(word, AT_KIND)) {
                case THEN:
                    return form.nextDeed(word, scene) == toward && reaches(toward, target, step);
                case WHEN:
                    return form.holds(word, scene) ? reaches(toward, target, step) : reachesLater(word, target, step);
                case ANYTIME:
                    return form.holds(word, scene) && reaches(toward, target, step)
                            || reachesLater(word, target, step);
                default:
                    return reaches(toward, target, step);
            }
        }

        private boolean reachesLater(int word, int target, int step) {
            if (step >= ahead) {
                return false;
            }
            for (int way = 0; way < size; way++) {
                go(step, way);
                if (reaches(word, target, step + 1)) {
                    return true;
                }
            }
            return false;
        }

        /** Goes through the WORLDS in order; the number has the WAYS so far as its digits. */
        int firstParting(Form one, Form two, int step, int number) {
            if (step >= ahead) {
                return isParting(one, two) ? number : NOT_PARTED;
            }
            for (int way = 0; way < size; way++) {
                go(step, way);
                int found = firstParting(one, two, step + 1, number * 10 + way);
                if (found != NOT_PARTED) {
                    return found;
                }
            }
            return NOT_PARTED;
        }

        private boolean isParting(Form one, Form two) {
            for (int i = 0; i < balance.length; i++) {
                balance[i] = 0;
            }
            form = one;
            run(0, 1, 0, 1);
            form = two;
            run(0, 1, 0, -1);
            for (int i = 0; i < balance.length; i++) {
                if (balance[i] != 0) {
                    return true;
                }
            }
            return false;
        }

        /** The PAYMENTS of a WORD along the path, each put (or taken, by the sign) to its DAY's balance. */
        private void run(int word, int factor, int step, int sign) {
            Scene scene = sceneAt(step);
            if (word < 0 || form.lapsed(word, scene)) {
                return;
            }
            int kind = form.field(word, AT_KIND);
            if (kind == ONE) {
                balance[Math.max(0, Math.min(step, MAX_AHEAD))] += sign * form.held(word, factor);
                return;
            }
            if (kind == WHEN && !form.holds(word, scene)) {
                if (step < ahead) {
                    run(word, factor, step + 1, sign);
                }
                return;
            }
            int passed = form.passed(word, factor, scene);
            run(form.nextDeed(word, scene), passed, step, sign);
            if (kind == BOTH) {
                run(form.field(word, AT_SECOND), passed, step, sign);
            }
        }
    }
}
