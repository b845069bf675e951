import java.util.Arrays;

/**
 * Men by a heap of nuts who wake one by one, share it, give what is over to the dog, hide a part and put the rest
 * together again. The document ../shared/DOC.md numbers what each call promises.
 */
public final class OneForDog {
    public static final int NONE = -1, BAD = -2, STATE = -3, FULL = -4;
    public static final long NO = Long.MIN_VALUE;

    private static final int NOT_THERE = -5, FAULT = -10;
    private static final int NOTHING = -11, CAST = -12, PLACE = -13, SIZE = -14;
    private static final int NONE_ASKED = -10001, BAD_ASKED = -10002;

    private static final int MEN = 6, ROW = 8, BOOK = 12, VILLAGES = 6, TEXT = 100, TAPES = 6, ITEMS = 60;
    private static final int LAST_HEAP = 999999, LAST_SOUGHT = 9999, LAST_WAKING = 9999;

    private static final int MAN = 0, SHARING = 1, DOUBLE = 2, HALVING = 3, HONEST = 4, TWICE = 5, LIAR = 6;
    private static final int KINDS = 7, LEVELS = 3;
    /** The kind above each kind; none is above a man. */
    private static final int[] ABOVE = {-1, MAN, MAN, MAN, SHARING, DOUBLE, HALVING};

    private final Camp camp = new Camp();
    private final Camp image = new Camp();
    private boolean imageTaken = false;
    private final VillageText text = new VillageText();
    private final Village bare = new Village();
    private final Village[] villages = new Village[VILLAGES];
    private int villageCount = 0;
    private final Wakings now = new Wakings();
    private final Night night = new Night();
    private final Roster roster = new Roster();
    private final LongNumber longNumber = new LongNumber();
    private final Bodies bodies = new Bodies();
    private final Tape[] tapes = new Tape[TAPES];

    public OneForDog() {
        for (int i = 0; i < VILLAGES; i++) {
            villages[i] = new Village();
        }
        for (int i = 0; i < TAPES; i++) {
            tapes[i] = new Tape();
        }
    }

    // ---- men, villages

    public int man(int kind, int v) {
        if (kind < 0 || kind >= KINDS) {
            return NONE;
        }
        if (v < 0 || v > 9) {
            return BAD;
        }
        int number = camp.men;
        if (number < 0 || number >= MEN) {
            return FULL;
        }
        camp.kinds[number] = kind;
        camp.values[number] = v;
        camp.hidden[number] = 0;
        camp.men = number + 1;
        return number;
    }

    public int of(int man, int what) {
        if (!isMan(man)) {
            return NONE_ASKED;
        }
        switch (what) {
            case 0:
                return camp.kinds[man];
            case 1:
                return camp.values[man];
            case 2:
                return camp.hidden[man];
            case 3:
                return readyWaking(man).partsOf(man);
            case 4:
                return readyWaking(man).overOf(man, 0, camp.heap);
            case 5:
                return readyWaking(man).backOf(man, 0, camp.heap);
            case 6:
                return readyWaking(man).comesOut(man, 0, camp.heap) ? 1 : 0;
            default:
                return NONE_ASKED;
        }
    }

    public int heap(int n) {
        if (!isHeap(n)) {
            return BAD;
        }
        int before = camp.heap;
        camp.heap = n;
        return before;
    }

    public int feed(int sign) {
        if (sign < 0 || sign > 127) {
            return BAD;
        }
        return text.add(sign) ? text.size() : FULL;
    }

    public int village() {
        int number = villageCount;
        if (number < 0 || number >= VILLAGES) {
            return FULL;
        }
        Village fresh = villages[number];
        if (fresh == null) {
            return FULL;
        }
        int fault = text.readInto(fresh);
        text.clear();
        if (fault >= 0) {
            return FAULT - fault;
        }
        camp.held = number;
        villageCount = number + 1;
        return number;
    }

    public int told(int what) {
        switch (what) {
            case 0:
                return heldVillage().shares;
            case 1:
                return heldVillage().morning;
            case 2:
                return camp.heap;
            case 3:
                return camp.dogs;
            case 4:
                return camp.wakings;
            default:
                return NONE;
        }
    }

    // ---- wakings, nights

    public int wake(int man) {
        if (!isMan(man)) {
            return NONE;
        }
        if (camp.wakings >= LAST_WAKING) {
            return STATE;
        }
        Wakings waking = readyWaking(man);
        if (!waking.comesOut(man, 0, camp.heap)) {
            return STATE;
        }
        camp.heap = waking.left;
        camp.dogs += waking.dogs;
        camp.hidden[man] += waking.hides;
        camp.wakings++;
        return waking.hides;
    }

    public int row(int man) {
        if (man == -1) {
            camp.rowLength = 0;
            return 0;
        }
        if (!isMan(man)) {
            return NONE;
        }
        int length = camp.rowLength;
        if (length < 0 || length >= ROW) {
            return FULL;
        }
        camp.row[length] = man;
        camp.rowLength = length + 1;
        return length + 1;
    }

    public int night(int heap) {
        if (!isHeap(heap)) {
            return BAD;
        }
        return readyNight().comesOut(heap) ? 1 : 0;
    }

    public int least(int n) {
        if (n < 0 || n > LAST_SOUGHT) {
            return BAD;
        }
        return readyNight().first(n, n + LAST_SOUGHT);
    }

    public int all(int n) {
        if (!isBound(n)) {
            return BAD;
        }
        return readyNight().howMany(0, n - 1);
    }

    public int greatest(int n) {
        if (!isBound(n)) {
            return BAD;
        }
        return readyNight().last(n - 1);
    }

    public int left(int heap, int what) {
        if (what != -1 && what != -2 && !isMan(what)) {
            return NONE_ASKED;
        }
        if (!isHeap(heap)) {
            return BAD_ASKED;
        }
        Night asked = readyNight();
        if (!asked.walks(heap, what)) {
            return NOT_THERE;
        }
        if (what == -1) {
            return asked.left;
        }
        return what == -2 ? asked.dogs : asked.hides;
    }

    // ---- who it was

    public int was(int left) {
        if (left < 0 || left > LAST_SOUGHT) {
            return BAD;
        }
        return readyNight().firstThatLeaves(left, LAST_SOUGHT);
    }

    public int up(int dusk, int dawn, int k) {
        if (k < -1 || k >= MEN) {
            return NONE;
        }
        if (dusk < 0 || dusk > LAST_SOUGHT || dawn < 0 || dawn > LAST_SOUGHT) {
            return BAD;
        }
        roster.seek(camp, heldVillage(), dusk, dawn);
        return k == -1 ? roster.rows : roster.manAt(k);
    }

    public long fair(int heap, int man, int part) {
        if (!isMan(man) || !isHeap(heap)) {
            return NO;
        }
        Night asked = readyNight();
        if (!asked.walks(heap, man)) {
            return NO;
        }
        long above = (long) asked.hides * camp.men + asked.left - (heap - asked.dogs);
        return ofFraction(above, camp.men, part);
    }

    public long chance(int n, int part) {
        if (!isBound(n)) {
            return NO;
        }
        return ofFraction(readyNight().howMany(1, n), n, part);
    }

    // ---- long numbers

    public int big(int d, int m, int o, int what) {
        boolean digit = what >= -1 && what < LongNumber.LENGTH;
        boolean rest = what >= 102 && what <= 199;
        if (!digit && !rest) {
            return NONE;
        }
        if (d < 2 || d > 12 || m < 1 || m > 30 || o < 0 || o > 9) {
            return BAD;
        }
        longNumber.becomes(d, m, o);
        if (rest) {
            return longNumber.restBy(what - 100);
        }
        return what == -1 ? longNumber.size() : longNumber.digit(what);
    }

    // ---- books, judging, the image, acts, tapes

    public int book(int heap) {
        if (heap == -1) {
            camp.pages = 0;
            return 0;
        }
        if (!isHeap(heap)) {
            return BAD;
        }
        int page = camp.pages;
        if (page < 0 || page >= BOOK) {
            return FULL;
        }
        camp.book[page] = heap;
        camp.pages = page + 1;
        return page + 1;
    }

    public int looked() {
        return readyNight().firstOtherThan(camp.book, camp.pages);
    }

    public int judge(int tape, int i) {
        Tape told = tapeAt(tape);
        if (told == null) {
            return NONE;
        }
        if (told.holdsSomething() && told.sort != Tape.LONGS) {
            return CAST;
        }
        for (int man = 0; man < camp.men && man < MEN; man++) {
            long place = (long) i + man;
            if (i < 0 || !told.has(place)) {
                return 100 + man;
            }
            if (told.at((int) place) != camp.hidden[man]) {
                return man;
            }
        }
        return NOT_THERE;
    }

    public int image() {
        image.becomes(camp);
        imageTaken = true;
        return camp.men;
    }

    public int undo() {
        if (!imageTaken) {
            return STATE;
        }
        camp.becomes(image);
        return camp.men;
    }

    public int act(int man, int act, int x) {
        bodies.forget();
        if (!isMan(man) || act < 0 || act >= Bodies.ACTS) {
            return 0;
        }
        return bodies.actsFor(man, camp.kinds[man], camp.values[man], act, x);
    }

    public int trace(int i) {
        return bodies.hasKept(i) ? bodies.kept(i) : NONE;
    }

    public int taken(int man, int k) {
        if (k < 0 || k >= KINDS) {
            return BAD;
        }
        if (!isMan(man)) {
            return NOTHING;
        }
        int kind = camp.kinds[man];
        return isUnder(kind, k) ? kind : CAST;
    }

    public int count(int what) {
        switch (what) {
            case 0:
                return camp.men;
            case 1:
                return villageCount;
            case 2:
                return camp.rowLength;
            case 3:
                return camp.pages;
            case 4:
                return text.size();
            case 5:
                return bodies.ran;
            default:
                return BAD;
        }
    }

    public int tape(int tape, int sort, int n) {
        Tape changed = tapeAt(tape);
        if (changed == null) {
            return NONE;
        }
        if (sort == Tape.EMPTY) {
            changed.becomes(Tape.EMPTY, 0);
            return 1;
        }
        if (sort < 0 || sort >= Tape.SORTS || n > ITEMS) {
            return BAD;
        }
        if (n < 0) {
            return SIZE;
        }
        changed.becomes(sort, n);
        return 1;
    }

    public int item(int tape, int i, long v) {
        Tape changed = tapeAt(tape);
        if (changed == null) {
            return NONE;
        }
        if (!changed.holdsSomething()) {
            return NOTHING;
        }
        if (!changed.has(i)) {
            return PLACE;
        }
        changed.put(i, v);
        return 1;
    }

    public long read(int tape, int i) {
        Tape asked = tapeAt(tape);
        if (asked == null || !asked.has(i)) {
            return NO;
        }
        return asked.at(i);
    }

    public int shift(int tape, int i, int other, int j, int n) {
        Tape from = tapeAt(tape);
        Tape to = tapeAt(other);
        if (from == null || to == null) {
            return NONE;
        }
        if (!from.holdsSomething() || !to.holdsSomething()) {
            return NOTHING;
        }
        if (from.sort != to.sort) {
            return CAST;
        }
        if (!from.hasStretch(i, n) || !to.hasStretch(j, n)) {
            return PLACE;
        }
        System.arraycopy(from.items, i, to.items, j, n);
        return n;
    }

    // ---- what the calls share

    private boolean isMan(int man) {
        return man >= 0 && man < camp.men && man < MEN;
    }

    private static boolean isHeap(int heap) {
        return heap >= 0 && heap <= LAST_HEAP;
    }

    private static boolean isBound(int n) {
        return n >= 1 && n <= LAST_SOUGHT;
    }

    private static boolean isUnder(int kind, int top) {
        int above = kind;
        for (int level = 0; level < LEVELS; level++) {
            if (above == top) {
                return true;
            }
            above = aboveOf(above);
        }
        return false;
    }

    private static int aboveOf(int kind) {
        return kind >= 0 && kind < ABOVE.length ? ABOVE[kind] : -1;
    }

    private Village heldVillage() {
        int held = camp.held;
        if (held < 0 || held >= villages.length) {
            return bare;
        }
        Village village = villages[held];
        return village == null ? bare : village;
    }

    private Wakings readyWaking(int man) {
        Village village = heldVillage();
        now.begin(camp, village);
        now.reckon(village, man, 0);
        return now;
    }

    private Night readyNight() {
        night.begin(camp, heldVillage());
        return night;
    }

    private Tape tapeAt(int tape) {
        return tape >= 0 && tape < tapes.length ? tapes[tape] : null;
    }

    private static long ofFraction(long above, long below, int part) {
        if (part < 0 || part > 1) {
            return NO;
        }
        long common = commonDivisor(Math.abs(above), below);
        if (common < 1) {
            return NO;
        }
        return (part == 0 ? above : below) / common;
    }

    private static long commonDivisor(long a, long b) {
        // A hundred rounds of this are enough for any two longs.
        for (int round = 0; round < 100 && b != 0; round++) {
            long rest = a % b;
            a = b;
            b = rest;
        }
        return a;
    }

    /** All that the image holds. */
    private static final class Camp {
        int men = 0;
        final int[] kinds = new int[MEN];
        final int[] values = new int[MEN];
        final int[] hidden = new int[MEN];
        int heap = 0;
        int dogs = 0;
        int wakings = 0;
        int rowLength = 0;
        final int[] row = new int[ROW];
        int pages = 0;
        final int[] book = new int[BOOK];
        /** Which village holds; -1: none. */
        int held = -1;

        void becomes(Camp other) {
            men = other.men;
            System.arraycopy(other.kinds, 0, kinds, 0, MEN);
            System.arraycopy(other.values, 0, values, 0, MEN);
            System.arraycopy(other.hidden, 0, hidden, 0, MEN);
            heap = other.heap;
            dogs = other.dogs;
            wakings = other.wakings;
            rowLength = other.rowLength;
            System.arraycopy(other.row, 0, row, 0, ROW);
            pages = other.pages;
            System.arraycopy(other.book, 0, book, 0, BOOK);
            held = other.held;
        }
    }

    /** What a village's clauses come to: the conditions of its rules stand in one row of steps, operands first. */
    private static final class Village {
        static final int CLAUSES = 10, LEAST_SHARES = 2;
        static final int NOT = -1, AND = -2, OR = -3;
        /** A test's step is ((letter * RELATIONS) + relation) * NUMBERS + number. */
        static final int RELATIONS = 3, NUMBERS = 100, LETTERS = 5;

        int shares = 3;
        int morning = 1;
        private int overs = 0;
        private int rules = 0;
        private final boolean[] isOver = new boolean[CLAUSES];
        private final int[] amounts = new int[CLAUSES];
        /** Where the steps of each rule end; they begin where those of the rule ahead of it end. */
        private final int[] ends = new int[CLAUSES];
        private int length = 0;
        private final int[] steps = new int[TEXT];

        void clear() {
            shares = 3;
            morning = 1;
            overs = 0;
            rules = 0;
            length = 0;
        }

        void setShares(int n) {
            shares = Math.max(n, LEAST_SHARES);
        }

        void addStep(int step) {
            if (length >= 0 && length < steps.length) {
                steps[length] = step;
                length++;
            }
        }

        /** The steps that came since the last rule are the condition of this one. */
        void addRule(boolean over, int amount) {
            if (rules < 0 || rules >= CLAUSES) {
                return;
            }
            isOver[rules] = over;
            amounts[rules] = amount;
            ends[rules] = length;
            rules++;
            if (over) {
                overs++;
            }
        }

        int over(int[] facts) {
            return overs == 0 ? 1 : sum(true, facts);
        }

        int back(int[] facts) {
            return sum(false, facts);
        }

        private int sum(boolean over, int[] facts) {
            int sum = 0;
            int start = 0;
            for (int rule = 0; rule < rules && rule < CLAUSES; rule++) {
                int end = ends[rule];
                if (isOver[rule] == over && holds(start, end, facts)) {
                    sum += amounts[rule];
                }
                start = end;
            }
            return sum;
        }

        private boolean holds(int start, int end, int[] facts) {
            // The operands stand as bits, the newest one lowest; nesting is so flat that they never fill a long.
            long operands = 0;
            for (int at = Math.max(start, 0); at < end && at < steps.length; at++) {
                int step = steps[at];
                long newest = operands & 1;
                if (step >= 0) {
                    operands = operands << 1 | (isSo(step, facts) ? 1 : 0);
                } else if (step == NOT) {
                    operands ^= 1;
                } else if (step == AND) {
                    operands = operands >>> 1 & (newest | ~1L);
                } else {
                    operands = operands >>> 1 | newest;
                }
            }
            return (operands & 1) != 0;
        }

        private static boolean isSo(int step, int[] facts) {
            int letter = step / NUMBERS / RELATIONS;
            if (letter < 0 || letter >= facts.length) {
                return false;
            }
            int fact = facts[letter];
            int number = step % NUMBERS;
            switch (step / NUMBERS % RELATIONS) {
                case 0:
                    return fact < number;
                case 1:
                    return fact == number;
                default:
                    return fact > number;
            }
        }
    }

    /** The text that signs are fed to, and the reading of a village from it. */
    private static final class VillageText {
        private static final int END = -1;
        private static final int MEN_WORD = 0, MORNING_WORD = 1, OVER_WORD = 2, BACK_WORD = 3, NO_WORD = -1;
        private static final int DEPTH = 4;
        private static final String LETTERS = "ikvwh";
        private static final String RELATIONS = "<=>";

        private final byte[] signs = new byte[TEXT];
        private int length = 0;
        /** Where the reading is, and the sign there. */
        private int place = 0;
        private int sign = END;

        int size() {
            return length;
        }

        void clear() {
            length = 0;
        }

        boolean add(int next) {
            if (length < 0 || length >= TEXT) {
                return false;
            }
            signs[length] = (byte) next;
            length++;
            return true;
        }

        /** The place of the fault, or -1. What is refused is never passed, so the fault is where the reading stops. */
        int readInto(Village village) {
            village.clear();
            goTo(0);
            boolean read = clause(village);
            for (int more = 1; more < Village.CLAUSES && read && sign == ';'; more++) {
                goTo(place + 1);
                read = clause(village);
            }
            return read && sign == END ? -1 : place;
        }

        private void goTo(int next) {
            place = next;
            sign = next >= 0 && next < length && next < TEXT ? signs[next] : END;
        }

        private boolean clause(Village village) {
            int word = word();
            if (word == NO_WORD) {
                return false;
            }
            int n = number();
            if (n < 0) {
                return false;
            }
            if (word == MEN_WORD) {
                village.setShares(n);
                return true;
            }
            if (word == MORNING_WORD) {
                village.morning = n;
                return true;
            }
            if (!spells(" ") || !either(village, 0)) {
                return false;
            }
            village.addRule(word == OVER_WORD, n);
            return true;
        }

        /** A clause's word and the blank behind it. */
        private int word() {
            switch (sign) {
                case 'o':
                    return spells("over ") ? OVER_WORD : NO_WORD;
                case 'b':
                    return spells("back ") ? BACK_WORD : NO_WORD;
                case 'm':
                    goTo(place + 1);
                    if (sign == 'o') {
                        return spells("orning ") ? MORNING_WORD : NO_WORD;
                    }
                    return spells("en ") ? MEN_WORD : NO_WORD;
                default:
                    return NO_WORD;
            }
        }

        private boolean spells(String word) {
            for (int i = 0; i < word.length(); i++) {
                if (sign != word.charAt(i)) {
                    return false;
                }
                goTo(place + 1);
            }
            return true;
        }

        /** A number of one or two digits; -1: there is none. */
        private int number() {
            if (sign < '0' || sign > '9') {
                return -1;
            }
            int n = sign - '0';
            goTo(place + 1);
            if (sign >= '0' && sign <= '9') {
                n = n * 10 + sign - '0';
                goTo(place + 1);
            }
            return n;
        }

        private boolean either(Village village, int depth) {
            boolean read = both(village, depth);
            for (int more = 0; more < TEXT && read && sign == '|'; more++) {
                goTo(place + 1);
                read = both(village, depth);
                village.addStep(Village.OR);
            }
            return read;
        }

        private boolean both(Village village, int depth) {
            boolean read = factor(village, depth);
            for (int more = 0; more < TEXT && read && sign == '&'; more++) {
                goTo(place + 1);
                read = factor(village, depth);
                village.addStep(Village.AND);
            }
            return read;
        }

        private boolean factor(Village village, int depth) {
            if (sign == '(' || sign == '!') {
                return depth < DEPTH && nested(village, depth + 1);
            }
            int letter = indexIn(LETTERS, sign);
            if (letter < 0) {
                return false;
            }
            goTo(place + 1);
            int relation = indexIn(RELATIONS, sign);
            if (relation < 0) {
                return false;
            }
            goTo(place + 1);
            int n = number();
            if (n < 0) {
                return false;
            }
            village.addStep((letter * Village.RELATIONS + relation) * Village.NUMBERS + n);
            return true;
        }

        private boolean nested(Village village, int depth) {
            boolean not = sign == '!';
            goTo(place + 1);
            if (not) {
                boolean read = factor(village, depth);
                village.addStep(Village.NOT);
                return read;
            }
            if (!either(village, depth) || sign != ')') {
                return false;
            }
            goTo(place + 1);
            return true;
        }

        private static int indexIn(String signs, int sign) {
            for (int i = 0; i < signs.length(); i++) {
                if (signs.charAt(i) == sign) {
                    return i;
                }
            }
            return -1;
        }
    }

    /** Single wakings, each so many steps behind the wakings gone. */
    private static final class Wakings {
        private static final int DIGITS = 10, CLOCK = 60;

        private final int[] kinds = new int[MEN];
        private final int[] values = new int[MEN];
        private final int[] parts = new int[MEN];
        private int gone = 0;
        private final int[] facts = new int[Village.LETTERS];
        // Of a heap a village knows the last digit alone: reckoned once for each, no search reads conditions again.
        private final int[] overs = new int[MEN * ROW * DIGITS];
        private final int[] backs = new int[MEN * ROW * DIGITS];
        /** What the latest waking left, gave the dog and hid. */
        int left = 0;
        int dogs = 0;
        int hides = 0;

        void begin(Camp camp, Village village) {
            gone = camp.wakings;
            for (int man = 0; man < MEN; man++) {
                kinds[man] = camp.kinds[man];
                values[man] = camp.values[man];
                parts[man] = partsFor(kinds[man], values[man], village.shares);
            }
        }

        private static int partsFor(int kind, int v, int shares) {
            switch (kind) {
                case SHARING:
                case HONEST:
                    return v + 2;
                case HALVING:
                case LIAR:
                    return 2;
                default:
                    return shares;
            }
        }

        /** To be done for a man and a step ahead of all that is asked of them. */
        void reckon(Village village, int man, int step) {
            for (int digit = 0; digit < DIGITS; digit++) {
                int slot = slot(man, step, digit);
                if (slot < 0) {
                    return;
                }
                facts[0] = man;
                facts[1] = kinds[man];
                facts[2] = values[man];
                facts[3] = (gone + step) % CLOCK;
                facts[4] = digit;
                overs[slot] = village.over(facts);
                backs[slot] = village.back(facts);
            }
        }

        private static int slot(int man, int step, int heap) {
            if (man < 0 || man >= MEN || step < 0 || step >= ROW || heap < 0) {
                return -1;
            }
            return (man * ROW + step) * DIGITS + heap % DIGITS;
        }

        int partsOf(int man) {
            return man >= 0 && man < MEN ? parts[man] : 0;
        }

        int overOf(int man, int step, int heap) {
            int slot = slot(man, step, heap);
            return slot < 0 ? 0 : overs[slot];
        }

        int backOf(int man, int step, int heap) {
            int slot = slot(man, step, heap);
            return slot < 0 ? 0 : backs[slot];
        }

        boolean comesOut(int man, int step, int heap) {
            left = heap;
            dogs = 0;
            hides = 0;
            if (!shareOnce(man, step)) {
                return false;
            }
            if (kinds[man] == TWICE) {
                shareOnce(man, step);
            }
            return true;
        }

        private boolean shareOnce(int man, int step) {
            int slot = slot(man, step, left);
            if (slot < 0) {
                return false;
            }
            int shared = left - overs[slot];
            int into = parts[man];
            if (shared < 0 || into < 1 || shared % into != 0) {
                return false;
            }
            int hidden = hiddenOf(kinds[man], shared, shared / into, backs[slot]);
            dogs += overs[slot];
            hides += hidden;
            left = shared - hidden;
            return true;
        }

        private static int hiddenOf(int kind, int shared, int part, int back) {
            switch (kind) {
                case HONEST:
                    return 0;
                case DOUBLE:
                case TWICE:
                    return Math.max(2 * part - back, 0);
                case LIAR:
                    return Math.min(part + back, shared);
                default:
                    return Math.max(part - back, 0);
            }
        }
    }

    /** The row's wakings from a heap on: asked, not done. */
    private static final class Night {
        private final Wakings wakings = new Wakings();
        private final int[] row = new int[ROW];
        private int length = 0;
        private int shares = 0;
        private int morning = 0;
        /** What the latest walk left, gave the dog, and hid for the man who was watched. */
        int left = 0;
        int dogs = 0;
        int hides = 0;

        void begin(Camp camp, Village village) {
            shares = village.shares;
            morning = village.morning;
            length = Math.min(camp.rowLength, ROW);
            wakings.begin(camp, village);
            for (int step = 0; step < length; step++) {
                row[step] = camp.row[step];
                wakings.reckon(village, row[step], step);
            }
        }

        /** Whether all wakings of the row come out from this heap. */
        boolean walks(int heap, int watched) {
            left = heap;
            dogs = 0;
            hides = 0;
            for (int step = 0; step < length && step < ROW; step++) {
                int man = row[step];
                if (!wakings.comesOut(man, step, left)) {
                    return false;
                }
                left = wakings.left;
                dogs += wakings.dogs;
                if (man == watched) {
                    hides += wakings.hides;
                }
            }
            return true;
        }

        boolean comesOut(int heap) {
            if (!walks(heap, -1) || shares < 1) {
                return false;
            }
            return left >= morning && (left - morning) % shares == 0;
        }

        int first(int from, int to) {
            for (int heap = from; heap <= to; heap++) {
                if (comesOut(heap)) {
                    return heap;
                }
            }
            return NOT_THERE;
        }

        int last(int from) {
            for (int heap = from; heap >= 0; heap--) {
                if (comesOut(heap)) {
                    return heap;
                }
            }
            return NOT_THERE;
        }

        int howMany(int from, int to) {
            int many = 0;
            for (int heap = from; heap <= to; heap++) {
                if (comesOut(heap)) {
                    many++;
                }
            }
            return many;
        }

        int firstThatLeaves(int rest, int to) {
            // No waking makes a heap greater, so none below the rest needs a look.
            for (int heap = rest; heap <= to; heap++) {
                if (walks(heap, -1) && left == rest) {
                    return heap;
                }
            }
            return NOT_THERE;
        }

        int firstOtherThan(int[] book, int pages) {
            if (pages < 1 || book.length < 1) {
                return NOT_THERE;
            }
            int heap = book[0];
            for (int k = 1; k < pages && k < book.length && k <= length && k <= ROW; k++) {
                if (!wakings.comesOut(row[k - 1], k - 1, heap)) {
                    return NOT_THERE;
                }
                heap = wakings.left;
                if (heap != book[k]) {
                    return k;
                }
            }
            return NOT_THERE;
        }
    }

    /** The search for rows of unlike men by which one heap becomes another. */
    private static final class Roster {
        private final Wakings wakings = new Wakings();
        private final int[] up = new int[MEN];
        private final int[] best = new int[MEN];
        /** How long the best row is; -1: there is none. */
        private int bestLength = -1;
        private int men = 0;
        private int dawn = 0;
        int rows = 0;

        void seek(Camp camp, Village village, int dusk, int sought) {
            men = Math.min(camp.men, MEN);
            dawn = sought;
            rows = 0;
            bestLength = -1;
            wakings.begin(camp, village);
            for (int man = 0; man < men; man++) {
                for (int step = 0; step < men; step++) {
                    wakings.reckon(village, man, step);
                }
            }
            follow(dusk, 0, 0);
        }

        /** Rows come in their order, so the first of each length is the first of its length. */
        private void follow(int heap, int length, int awake) {
            if (heap == dawn) {
                keep(length);
            }
            if (length < 0 || length >= men) {
                return;
            }
            for (int man = 0; man < men; man++) {
                wakeNext(man, heap, length, awake);
            }
        }

        private void wakeNext(int man, int heap, int length, int awake) {
            boolean asleep = (awake >> man & 1) == 0;
            if (asleep && length >= 0 && length < MEN && wakings.comesOut(man, length, heap)) {
                up[length] = man;
                follow(wakings.left, length + 1, awake | 1 << man);
            }
        }

        private void keep(int length) {
            rows++;
            if (bestLength >= 0 && bestLength <= length) {
                return;
            }
            bestLength = length;
            System.arraycopy(up, 0, best, 0, MEN);
        }

        int manAt(int k) {
            return k >= 0 && k < bestLength && k < MEN ? best[k] : NOT_THERE;
        }
    }

    /** A number of forty digits at most, the last one first. */
    private static final class LongNumber {
        static final int LENGTH = 40;

        private final int[] digits = new int[LENGTH];

        void becomes(int d, int m, int o) {
            Arrays.fill(digits, 0);
            digits[0] = 1;
            for (int times = 0; times <= m; times++) {
                multiply(d);
            }
            subtract((d - 1) * o);
        }

        private void multiply(int by) {
            int carry = 0;
            for (int i = 0; i < LENGTH; i++) {
                int product = digits[i] * by + carry;
                digits[i] = product % 10;
                carry = product / 10;
            }
        }

        private void subtract(int amount) {
            int owed = amount;
            for (int i = 0; i < LENGTH; i++) {
                int rest = digits[i] - owed;
                digits[i] = Math.floorMod(rest, 10);
                owed = -Math.floorDiv(rest, 10);
            }
            if (owed > 0) {
                Arrays.fill(digits, 0);
            }
        }

        int size() {
            for (int i = LENGTH - 1; i > 0; i--) {
                if (digits[i] != 0) {
                    return i + 1;
                }
            }
            return 1;
        }

        int digit(int k) {
            return k >= 0 && k < LENGTH ? digits[k] : 0;
        }

        int restBy(int q) {
            if (q < 1) {
                return 0;
            }
            int rest = 0;
            for (int i = LENGTH - 1; i >= 0; i--) {
                rest = (rest * 10 + digits[i]) % q;
            }
            return rest;
        }
    }

    /** The bodies of the acts, and the trace of those that ran. */
    private static final class Bodies {
        static final int WAKES = 0, HIDES = 1, TELLS = 2, ACTS = 3;
        private static final int KEPT = 20, DEPTH = 30;
        /** Of kind by kind the bodies for the three acts; 0: the kind has none. */
        private static final int[] NUMBERS = {
            10, 11, 12,
            0, 20, 0,
            30, 0, 0,
            0, 0, 40,
            50, 51, 0,
            0, 0, 60,
            71, 70, 0,
        };

        private final int[] trace = new int[KEPT];
        int ran = 0;
        private int i = 0;
        private int kind = 0;
        private int v = 0;

        void forget() {
            ran = 0;
        }

        int actsFor(int man, int itsKind, int itsV, int act, int x) {
            i = man;
            kind = itsKind;
            v = itsV;
            return does(act, x, kind, 0);
        }

        boolean hasKept(int at) {
            return at >= 0 && at < ran && at < KEPT;
        }

        int kept(int at) {
            return hasKept(at) ? trace[at] : 0;
        }

        /** The act by the body of this kind or of the next above that has one. */
        private int does(int act, int x, int from, int depth) {
            int owner = from;
            for (int level = 0; level < LEVELS && number(owner, act) == 0; level++) {
                owner = aboveOf(owner);
            }
            int body = number(owner, act);
            if (body == 0 || depth > DEPTH) {
                return 0;
            }
            begins(body);
            return runs(body, x, aboveOf(owner), depth + 1);
        }

        private int runs(int body, int x, int above, int deeper) {
            switch (body) {
                case 10:
                    return x + i;
                case 11:
                    return does(WAKES, x, kind, deeper) - v;
                case 12:
                    return does(HIDES, x, kind, deeper) * 2;
                case 20:
                    return does(HIDES, x, above, deeper) ^ 6;
                case 30:
                    return does(WAKES, x * 3, above, deeper);
                case 40:
                    return does(TELLS, x, above, deeper) + does(HIDES, 1, kind, deeper);
                case 50:
                    return -does(WAKES, x, above, deeper);
                case 51:
                    return does(HIDES, x + 1, above, deeper);
                case 60:
                    return does(TELLS, x - i, above, deeper);
                case 70:
                    return does(HIDES, x, above, deeper) + does(WAKES, 2, above, deeper);
                case 71:
                    return does(WAKES, x, above, deeper) ^ v;
                default:
                    return 0;
            }
        }

        private static int number(int kind, int act) {
            int at = kind * ACTS + act;
            return kind >= 0 && act >= 0 && act < ACTS && at < NUMBERS.length ? NUMBERS[at] : 0;
        }

        private void begins(int body) {
            if (ran >= 0 && ran < KEPT) {
                trace[ran] = body;
            }
            ran++;
        }
    }

    /** A row of items of one sort, or nothing. */
    private static final class Tape {
        static final int EMPTY = -1, BYTES = 0, SHORTS = 1, INTS = 2, LONGS = 3, SORTS = 5;

        int sort = EMPTY;
        private int length = 0;
        final long[] items = new long[ITEMS];

        void becomes(int newSort, int n) {
            sort = newSort;
            length = n;
            Arrays.fill(items, 0L);
        }

        boolean holdsSomething() {
            return sort != EMPTY;
        }

        boolean has(long place) {
            return place >= 0 && place < length && place < ITEMS;
        }

        boolean hasStretch(int from, int n) {
            return from >= 0 && n >= 0 && (long) from + n <= length && length <= ITEMS;
        }

        long at(int place) {
            return has(place) ? items[place] : 0;
        }

        void put(int place, long v) {
            if (has(place)) {
                items[place] = cut(v);
            }
        }

        private long cut(long v) {
            switch (sort) {
                case BYTES:
                    return (byte) v;
                case SHORTS:
                    return (short) v;
                case INTS:
                    return (int) v;
                case LONGS:
                    return v;
                default:
                    return v != 0 ? 1 : 0;
            }
        }
    }
}
