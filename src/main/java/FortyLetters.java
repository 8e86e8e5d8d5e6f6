/**
 * Sealed at birth: a town whose people hold letters that say what they are to do.
 * README.md tells how to use it; the document's promises say what each method answers.
 */
public final class FortyLetters {
    public static final int NONE = -1;

    private static final int NO_SUCH = -2;
    private static final int NO_LAW = -100;

    // The sorts of what a TOWN tells, numbered as about() asks for them.
    private static final int PERSONS = 0;
    private static final int SKILLS = 1;
    private static final int ORDERS = 2;
    private static final int PARISHES = 3;
    private static final int UNDOINGS = 4;
    private static final int[] MOST_OF_SORT = {6, 4, 8, 3, 8};
    private static final int MOST_PERSONS = 6;
    private static final int MOST_SKILLS = 4;
    private static final int MOST_ORDERS = 8;
    private static final int MOST_PARISHES = 3;

    // What is told of an ORDER, numbered as order() asks for it.
    private static final int ASKED_SKILL = 0;
    private static final int ASKED_LEVEL = 1;
    private static final int SEAL = 2;
    private static final int WEIGHT = 3;
    private static final int WORTH = 4;
    private static final int TRAITS = 5;

    private static final int SEALED = 0;
    private static final int STEAMED = 1;
    private static final int DONE = 2;
    private static final int FAILED = 3;
    private static final int FREE = 4;

    // Where all that ACTS can change stands in one row of numbers, so that a row can be kept and put back whole.
    private static final int AGES = 0;
    private static final int HOW = 6;
    private static final int PREPARED = 12;
    private static final int HELD = 18;
    private static final int LEVELS = 24;
    private static final int YEAR_NOW = 48;
    private static final int CELLS = 49;

    private static final int MOST_BYTES = 1600;
    private static final int BYTES_FED = 20;
    private static final int LONGEST_WORD = 8;
    private static final int MOST_DIGITS = 4;
    private static final int MOST_UNITS = 30;
    private static final int MOST_WITHIN = 6;
    // 30 units, 29 signs between them, and up to 7 times "not" ahead of each
    private static final int MOST_STEPS = 300;
    private static final int MOST_LEVEL = 20;
    private static final int MOST_GAIN = 9;
    private static final int MOST_YEARS = 999;
    private static final int YEARS_AHEAD = 60;
    private static final int LONGEST_LIFE = 12;
    private static final int OPEN_IF_NOT_TOLD = 40;
    private static final int MOST_ACTS = 40;
    private static final int BOXES = 3;
    private static final int MOST_SIGNS = 30;
    private static final int SIGN_SORTS = 3;
    private static final int LATEST_TIME = 100000;
    private static final int LONGEST_STEP = 1000;

    private static final int NO_TOKEN = 1;
    private static final int MISPLACED = 2;
    private static final int TOLD_ALREADY = 3;
    private static final int NO_SUCH_NUMBER = 4;
    private static final int UNKNOWN_NAME = 5;

    // The kinds of TOKENS: a word of the grammar is its place in WORDS, a sign is its character.
    private static final String WORDS =
        "skill order asks seal weight worth parish odds person of age undoes teach open draw or and not level year which";
    private static final int WORD_COUNT = 21;
    private static final String TOKEN_SIGNS = ";()<>=+-*/%";
    private static final int SKILL_WORD = 0;
    private static final int ORDER_WORD = 1;
    private static final int ASKS_WORD = 2;
    private static final int SEAL_WORD = 3;
    private static final int WEIGHT_WORD = 4;
    private static final int WORTH_WORD = 5;
    private static final int PARISH_WORD = 6;
    private static final int ODDS_WORD = 7;
    private static final int PERSON_WORD = 8;
    private static final int OF_WORD = 9;
    private static final int AGE_WORD = 10;
    private static final int UNDOES_WORD = 11;
    private static final int TEACH_WORD = 12;
    private static final int OPEN_WORD = 13;
    private static final int DRAW_WORD = 14;
    private static final int OR_WORD = 15;
    private static final int AND_WORD = 16;
    private static final int NOT_WORD = 17;
    private static final int LEVEL_WORD = 18;
    private static final int YEAR_WORD = 19;
    private static final int WHICH_WORD = 20;
    private static final int NAME = 100;
    private static final int NUMBER = 101;
    private static final int END = 102;
    private static final int BAD = 103;

    private final byte[] tape = new byte[MOST_BYTES];
    private int tapeLength = 0;
    private Town spare = new Town();
    private final Reader reader = new Reader(tape, spare);
    private final Play now = new Play(new Town());
    private final Play trial = new Play(spare);
    private final History history = new History();
    private final int[][] boxes = new int[BOXES][CELLS];
    private int fullBoxes = 0;
    private final Prospect prospect = new Prospect(now);
    private final Rows rows = new Rows(now);
    private final Signs signs = new Signs();
    private int time = 0;
    private final int[] lying = new int[MOST_ORDERS];
    private int lyingCount = 0;

    public FortyLetters() {
        now.begin();
        history.clear(now.cells);
    }

    public int feed(int a, int b, int c, int d, int e) {
        if (tapeLength + BYTES_FED > MOST_BYTES) {
            return NONE;
        }
        putBytes(a);
        putBytes(b);
        putBytes(c);
        putBytes(d);
        putBytes(e);
        return tapeLength;
    }

    private void putBytes(int number) {
        for (int shift = 24; shift >= 0 && tapeLength < MOST_BYTES; shift -= 8) {
            tape[tapeLength] = (byte) (number >>> shift);
            tapeLength++;
        }
    }

    public int end(int n) {
        if (n < 0 || n > tapeLength) {
            return NONE;
        }
        tapeLength = n;
        return n;
    }

    public int town() {
        int length = tapeLength;
        tapeLength = 0;
        if (!reader.readsTown(length, spare)) {
            return NONE;
        }
        Town told = spare;
        spare = now.told;
        now.told = told;
        now.begin();
        history.clear(now.cells);
        signs.count = 0;
        lyingCount = 0;
        fullBoxes = 0;
        return told.counts[PERSONS];
    }

    public int fault(int what) {
        return chosen(what, reader.fault, reader.faultPlace);
    }

    private static int chosen(int what, int ofZero, int ofOne) {
        switch (what) {
            case 0: return ofZero;
            case 1: return ofOne;
            default: return NONE;
        }
    }

    public int person(int person, int what) {
        if (!now.told.has(PERSONS, person)) {
            return NO_SUCH;
        }
        switch (what) {
            case 0: return now.cells[AGES + person];
            case 1: return now.cells[HOW + person];
            case 2: return now.cells[PREPARED + person];
            case 3: return now.told.parishOf[person];
            case 4: return now.cells[HELD + person];
            case 5: return now.ordersFor(person);
            default: return NO_SUCH;
        }
    }

    public int level(int person, int skill) {
        if (!now.told.has(PERSONS, person) || !now.told.has(SKILLS, skill)) {
            return NONE;
        }
        return now.levelOf(person, skill);
    }

    public int order(int order, int what) {
        if (!now.told.has(ORDERS, order)) {
            return NONE;
        }
        if (what >= 0 && what < TRAITS) {
            return now.told.traits[what][order];
        }
        return what == TRAITS ? now.told.undone[order] : NONE;
    }

    public int share(int parish, int order) {
        if (!now.told.has(PARISHES, parish) || !now.told.has(ORDERS, order)) {
            return NONE;
        }
        return now.told.shares[parish][order];
    }

    public int many(int state) {
        return state < SEALED || state > FREE ? NONE : now.countOf(state);
    }

    public int done() {
        return now.doneOrders();
    }

    private boolean isUnopened(int person) {
        return now.told.has(PERSONS, person) && !now.isOpened(person);
    }

    private void keepAct() {
        history.keep(now.cells);
    }

    public int prepare(int person, int skill) {
        if (!isUnopened(person) || (skill != NONE && !now.told.has(SKILLS, skill))) {
            return NO_SUCH;
        }
        int before = now.cells[PREPARED + person];
        now.cells[PREPARED + person] = skill;
        keepAct();
        return before;
    }

    public int steam(int person) {
        if (!now.told.has(PERSONS, person) || now.cells[HOW + person] != SEALED) {
            return NO_SUCH;
        }
        now.cells[HOW + person] = STEAMED;
        keepAct();
        return now.cells[HELD + person];
    }

    public boolean swap(int person, int other) {
        if (person == other || !isUnopened(person) || !isUnopened(other)) {
            return false;
        }
        int held = now.cells[HELD + person];
        now.cells[HELD + person] = now.cells[HELD + other];
        now.cells[HELD + other] = held;
        now.cells[HOW + person] = SEALED;
        now.cells[HOW + other] = SEALED;
        keepAct();
        return true;
    }

    public int forge(int person, int order) {
        if (!isUnopened(person) || !now.told.has(ORDERS, order)) {
            return NO_SUCH;
        }
        int before = now.cells[HELD + person];
        now.cells[HELD + person] = order;
        now.cells[HOW + person] = STEAMED;
        keepAct();
        return before;
    }

    public int opens(int person) {
        if (!isUnopened(person)) {
            return NONE;
        }
        now.openLetter(person);
        keepAct();
        return now.cells[HOW + person];
    }

    public int year() {
        if (now.cells[YEAR_NOW] >= MOST_YEARS) {
            return NONE;
        }
        int opened = now.passYear();
        keepAct();
        return opened;
    }

    public boolean undo() {
        return history.stepsBack(now.cells);
    }

    public boolean redo() {
        return history.stepsOn(now.cells);
    }

    public int odds(int person, int part) {
        if (!isUnopened(person)) {
            return NONE;
        }
        prospect.look(person);
        return partOfLowestTerms(prospect.parts(), prospect.wholes(), part);
    }

    public int hope(int person, int part) {
        if (!isUnopened(person)) {
            return NONE;
        }
        prospect.look(person);
        return partOfLowestTerms(prospect.worths(), prospect.wholes(), part);
    }

    private static int partOfLowestTerms(int upper, int lower, int part) {
        int divisor = Math.max(1, greatestDivisor(upper, lower));
        return chosen(part, upper / divisor, lower / divisor);
    }

    private static int greatestDivisor(int a, int b) {
        int large = a;
        int small = b;
        // Each two turns halve the rest, so that 64 are more than ints can need.
        for (int turn = 0; turn < 64 && small != 0; turn++) {
            int rest = large % small;
            large = small;
            small = rest;
        }
        return large;
    }

    public int life(int person) {
        lyingCount = 0;
        if (!isUnopened(person) || now.yearsTillOpened(person) > LONGEST_LIFE) {
            return NONE;
        }
        int most = prospect.spreadsBest(person);
        if (most != NONE) {
            lay(prospect.best, now.told.counts[SKILLS]);
        }
        return most;
    }

    private void lay(int[] row, int count) {
        for (int i = 0; i < count && i < row.length && i < lying.length; i++) {
            lying[i] = row[i];
        }
        lyingCount = count;
    }

    public int able(int order) {
        if (!now.told.has(ORDERS, order)) {
            return NONE;
        }
        int bits = 0;
        for (int person = 0; person < now.told.counts[PERSONS]; person++) {
            if (now.canDo(person, order)) {
                bits |= 1 << person;
            }
        }
        return bits & now.unopened();
    }

    public int ready(int person, int order) {
        if (!isUnopened(person) || !now.told.has(ORDERS, order)) {
            return NONE;
        }
        return now.yearsTillReady(person, order);
    }

    public int lost(int person) {
        if (!isUnopened(person)) {
            return NONE;
        }
        int[] shares = now.told.sharesOf(person);
        int years = now.yearsTillOpened(person);
        int bits = 0;
        for (int order = 0; order < now.told.counts[ORDERS]; order++) {
            // Levels never fall, so that preparing the SKILL it asks for does best.
            int skill = now.told.traits[ASKED_SKILL][order];
            int level = now.levelBehind(person, skill, years);
            if (shares[order] > 0 && level < now.told.traits[ASKED_LEVEL][order]) {
                bits |= 1 << order;
            }
        }
        return bits;
    }

    public int will(int person, int n) {
        if (!now.told.has(PERSONS, person) || n < 0 || n > YEARS_AHEAD) {
            return NONE;
        }
        trial.copy(now);
        for (int gone = 0; gone < n; gone++) {
            trial.passYear();
        }
        return trial.cells[HOW + person];
    }

    public int first(int what) {
        trial.copy(now);
        for (int gone = 1; gone <= YEARS_AHEAD; gone++) {
            trial.passYear();
            int person = firstNewFailure();
            if (person != NONE) {
                return chosen(what, person, gone);
            }
        }
        return NONE;
    }

    private int firstNewFailure() {
        for (int person = 0; person < trial.told.counts[PERSONS]; person++) {
            if (trial.cells[HOW + person] == FAILED && now.cells[HOW + person] != FAILED) {
                return person;
            }
        }
        return NONE;
    }

    public int rings() {
        int most = rows.bestRings();
        lay(rows.best, now.told.counts[PERSONS]);
        return most;
    }

    public int opening(int set) {
        lyingCount = 0;
        if ((set & ~now.unopened()) != 0) {
            return NONE;
        }
        int most = rows.bestOpening(set);
        lay(rows.best, Integer.bitCount(set));
        return most;
    }

    public int law(int order, int other) {
        if (order == other || !now.told.has(ORDERS, order) || !now.told.has(ORDERS, other)) {
            return NO_LAW;
        }
        int asIs = doneAtLast(NONE, NONE);
        return doneAtLast(order, other) - asIs;
    }

    private int doneAtLast(int order, int other) {
        trial.copy(now);
        for (int person = 0; order != NONE && person < trial.told.counts[PERSONS]; person++) {
            if (!trial.isOpened(person) && trial.cells[HELD + person] == order) {
                trial.cells[HELD + person] = other;
            }
        }
        for (int gone = 0; gone < YEARS_AHEAD; gone++) {
            trial.passYear();
        }
        return trial.countOf(DONE);
    }

    public int lies(int i) {
        return i < 0 || i >= lyingCount || i >= lying.length ? NO_SUCH : lying[i];
    }

    public int sign(int person, int what, int number, boolean is) {
        if (!now.told.has(PERSONS, person) || what < 0 || what >= SIGN_SORTS || number < 0 || number > 9) {
            return NONE;
        }
        return signs.tell(person, what, number, is, time);
    }

    public boolean untell(int sign) {
        return signs.takesBack(sign, time);
    }

    public int later(int by) {
        if (by < 0 || by > LONGEST_STEP || time + by > LATEST_TIME) {
            return NONE;
        }
        time += by;
        return time;
    }

    public int meant(int person, int k) {
        return now.told.has(PERSONS, person) ? signs.fitting(now.told, person, k) : NONE;
    }

    public int likely(int person, int k) {
        if (!now.told.has(PERSONS, person)) {
            return NONE;
        }
        int fitting = signs.fitting(now.told, person, k);
        int[] shares = now.told.sharesOf(person);
        int best = NONE;
        for (int order = 0; order < now.told.counts[ORDERS]; order++) {
            boolean fits = (fitting & 1 << order) != 0;
            if (fits && (best == NONE || shares[order] > shares[best])) {
                best = order;
            }
        }
        return best;
    }

    public int ask(int person, int what, int k) {
        if (!now.told.has(PERSONS, person)) {
            return NONE;
        }
        int fitting = signs.fitting(now.told, person, k);
        if (fitting == 0) {
            return NONE;
        }
        int best = 0;
        int fewest = MOST_ORDERS + 1;
        for (int sort = 0; sort < SIGN_SORTS; sort++) {
            int left = Signs.mostLeft(now.told, fitting, sort);
            if (left < fewest) {
                best = sort;
                fewest = left;
            }
        }
        return chosen(what, best, fewest);
    }

    public int image(int box) {
        if (box < 0 || box >= BOXES) {
            return NONE;
        }
        System.arraycopy(now.cells, 0, boxes[box], 0, CELLS);
        fullBoxes |= 1 << box;
        return now.cells[YEAR_NOW];
    }

    public int back(int box) {
        if (box < 0 || box >= BOXES || (fullBoxes & 1 << box) == 0) {
            return NONE;
        }
        System.arraycopy(boxes[box], 0, now.cells, 0, CELLS);
        history.clear(now.cells);
        return now.cells[YEAR_NOW];
    }

    public int about(int what) {
        switch (what) {
            case PERSONS:
            case SKILLS:
            case ORDERS:
            case PARISHES:
            case UNDOINGS: return now.told.counts[what];
            case 5: return now.cells[YEAR_NOW];
            case 6: return now.seed;
            case 7: return now.told.openAge;
            case 8: return history.undoable;
            case 9: return history.redoable;
            case 10: return signs.count;
            case 11: return time;
            case 12: return tapeLength;
            case 13: return now.told.teach.units;
            case 14: return lyingCount;
            default: return NONE;
        }
    }

    /** What the text of a TOWN tells. */
    private static final class Town {
        final int[] counts = new int[UNDOINGS + 1];
        final long[][] names = new long[PARISHES + 1][MOST_ORDERS];
        final int[][] traits = new int[TRAITS][MOST_ORDERS];
        final int[] undone = new int[MOST_ORDERS];
        final int[] undoers = new int[MOST_ORDERS];
        final int[][] shares = new int[MOST_PARISHES][MOST_ORDERS];
        final int[] parishOf = new int[MOST_PERSONS];
        final int[] ages = new int[MOST_PERSONS];
        final int[][] levels = new int[MOST_PERSONS][MOST_SKILLS];
        final Formula teach = new Formula();
        int openAge = OPEN_IF_NOT_TOLD;
        int draw = 0;

        void clear() {
            for (int sort = 0; sort < counts.length; sort++) {
                counts[sort] = 0;
            }
            for (int order = 0; order < MOST_ORDERS; order++) {
                undone[order] = 0;
                undoers[order] = 0;
                for (int parish = 0; parish < MOST_PARISHES; parish++) {
                    shares[parish][order] = 0;
                }
            }
            teach.clear();
            openAge = OPEN_IF_NOT_TOLD;
            draw = 0;
        }

        boolean has(int sort, int index) {
            return index >= 0 && index < counts[sort];
        }

        int[] sharesOf(int person) {
            return shares[parishOf[person]];
        }

        int allShares(int person) {
            int[] row = sharesOf(person);
            int sum = 0;
            for (int order = 0; order < counts[ORDERS]; order++) {
                sum += row[order];
            }
            return sum;
        }
    }

    /** How much a year teaches: a formula whose signs stand behind what they join. */
    private static final class Formula {
        private final int[] steps = new int[MOST_STEPS];
        private final int[] numbers = new int[MOST_STEPS];
        private final int[] stack = new int[MOST_UNITS];
        private int length = 0;
        int units = 0;

        void clear() {
            length = 0;
            units = 0;
        }

        void add(int step, int number) {
            if (length < MOST_STEPS) {
                steps[length] = step;
                numbers[length] = number;
                length++;
            }
        }

        int gain(int level, int age, int year, int skill) {
            int top = 0;
            for (int i = 0; i < length; i++) {
                if (isUnit(steps[i])) {
                    if (top < MOST_UNITS) {
                        stack[top] = valueOf(i, level, age, year, skill);
                        top++;
                    }
                } else if (steps[i] == NOT_WORD) {
                    if (top > 0) {
                        stack[top - 1] = stack[top - 1] == 0 ? 1 : 0;
                    }
                } else if (top > 1) {
                    top--;
                    stack[top - 1] = joined(steps[i], stack[top - 1], stack[top]);
                }
            }
            int gained = top > 0 ? stack[0] : 1;
            return Math.max(0, Math.min(MOST_GAIN, gained));
        }

        static boolean isUnit(int step) {
            switch (step) {
                case NUMBER:
                case LEVEL_WORD:
                case AGE_WORD:
                case YEAR_WORD:
                case WHICH_WORD: return true;
                default: return false;
            }
        }

        private int valueOf(int place, int level, int age, int year, int skill) {
            switch (steps[place]) {
                case LEVEL_WORD: return level;
                case AGE_WORD: return age;
                case YEAR_WORD: return year;
                case WHICH_WORD: return skill;
                default: return numbers[place];
            }
        }

        private static int joined(int sign, int a, int b) {
            switch (sign) {
                case '+': return a + b;
                case '-': return a - b;
                case '*': return a * b;
                case '/': return b == 0 ? 0 : a / b;
                case '%': return b == 0 ? 0 : a % b;
                case '<': return a < b ? 1 : 0;
                case '>': return a > b ? 1 : 0;
                case '=': return a == b ? 1 : 0;
                case AND_WORD: return a != 0 && b != 0 ? 1 : 0;
                default: return a != 0 || b != 0 ? 1 : 0;
            }
        }
    }

    /** Reads a TAPE from its first byte on and stops at the first FAULT, which is so the first by its place. */
    private static final class Reader {
        int fault = 0;
        int faultPlace = NONE;
        private final long[] words = new long[WORD_COUNT];
        private final byte[] text;
        private int length = 0;
        private int at = 0;
        private int kind = END;
        private int place = 0;
        private long name = 0;
        private int number = 0;
        private Town town;
        private int onceTold = 0;

        Reader(byte[] tape, Town first) {
            text = tape;
            town = first;
            int index = 0;
            for (int i = 0; i < WORDS.length() && index < WORD_COUNT; i++) {
                if (WORDS.charAt(i) == ' ') {
                    index++;
                } else {
                    words[index] = behind(words[index], WORDS.charAt(i));
                }
            }
        }

        boolean readsTown(int count, Town into) {
            length = Math.min(count, text.length);
            at = 0;
            town = into;
            onceTold = 0;
            fault = 0;
            faultPlace = NONE;
            into.clear();
            next();
            for (int line = 0; line < MOST_BYTES && kind != END; line++) {
                if (!readsLine()) {
                    return false;
                }
            }
            return true;
        }

        private boolean readsLine() {
            switch (kind) {
                case SKILL_WORD: return readsNamed(SKILLS) && take(';');
                case ORDER_WORD: return readsOrder();
                case PARISH_WORD: return readsNamed(PARISHES) && take(';');
                case ODDS_WORD: return readsOdds();
                case PERSON_WORD: return readsPerson();
                case UNDOES_WORD: return readsUndoes();
                case TEACH_WORD: return takesOnce() && either(0) && take(';');
                case OPEN_WORD: return readsOpen();
                case DRAW_WORD: return readsDraw();
                default: return misplaced();
            }
        }

        private boolean readsNamed(int sort) {
            int index = town.counts[sort];
            if (index >= MOST_OF_SORT[sort]) {
                return refuse(MISPLACED);
            }
            next();
            if (kind != NAME) {
                return misplaced();
            }
            if (find(sort) != NONE) {
                return refuse(TOLD_ALREADY);
            }
            town.names[sort][index] = name;
            town.counts[sort] = index + 1;
            next();
            return true;
        }

        private boolean readsOrder() {
            int order = town.counts[ORDERS];
            if (!readsNamed(ORDERS) || !take(ASKS_WORD)) {
                return false;
            }
            int skill = known(SKILLS);
            if (skill == NONE) {
                return false;
            }
            town.traits[ASKED_SKILL][order] = skill;
            next();
            int level = numberWithin(0, MOST_LEVEL);
            if (level == NONE) {
                return false;
            }
            town.traits[ASKED_LEVEL][order] = level;
            next();
            return readsTrait(SEAL_WORD, SEAL, 0) && readsTrait(WEIGHT_WORD, WEIGHT, 0)
                && readsTrait(WORTH_WORD, WORTH, 1) && take(';');
        }

        /** The least that a trait can be is also what it is if it is not told. */
        private boolean readsTrait(int word, int trait, int least) {
            int order = town.counts[ORDERS] - 1;
            town.traits[trait][order] = least;
            if (kind != word) {
                return true;
            }
            next();
            int told = numberWithin(least, 9);
            if (told == NONE) {
                return false;
            }
            town.traits[trait][order] = told;
            next();
            return true;
        }

        private boolean readsOdds() {
            next();
            int parish = known(PARISHES);
            if (parish == NONE) {
                return false;
            }
            next();
            int order = known(ORDERS);
            if (order == NONE) {
                return false;
            }
            if (town.shares[parish][order] != 0) {
                return refuse(TOLD_ALREADY);
            }
            next();
            int share = numberWithin(1, 9);
            if (share == NONE) {
                return false;
            }
            town.shares[parish][order] = share;
            next();
            return take(';');
        }

        private boolean readsPerson() {
            int person = town.counts[PERSONS];
            if (!readsNamed(PERSONS) || !take(OF_WORD)) {
                return false;
            }
            int parish = known(PARISHES);
            if (parish == NONE) {
                return false;
            }
            town.parishOf[person] = parish;
            next();
            if (!take(AGE_WORD)) {
                return false;
            }
            int age = numberWithin(0, 39);
            if (age == NONE) {
                return false;
            }
            town.ages[person] = age;
            next();
            return readsLevels(person) && take(';');
        }

        private boolean readsLevels(int person) {
            int[] levels = town.levels[person];
            for (int skill = 0; skill < MOST_SKILLS; skill++) {
                levels[skill] = 0;
            }
            int told = 0;
            for (int i = 0; i <= MOST_SKILLS && kind == NAME; i++) {
                int skill = known(SKILLS);
                if (skill == NONE) {
                    return false;
                }
                if ((told & 1 << skill) != 0) {
                    return refuse(TOLD_ALREADY);
                }
                told |= 1 << skill;
                next();
                int level = numberWithin(0, MOST_LEVEL);
                if (level == NONE) {
                    return false;
                }
                levels[skill] = level;
                next();
            }
            return true;
        }

        private boolean readsUndoes() {
            if (town.counts[UNDOINGS] >= MOST_OF_SORT[UNDOINGS]) {
                return refuse(MISPLACED);
            }
            next();
            int order = known(ORDERS);
            if (order == NONE) {
                return false;
            }
            next();
            int other = known(ORDERS);
            if (other == NONE) {
                return false;
            }
            if (order == other || (town.undone[order] & 1 << other) != 0) {
                return refuse(TOLD_ALREADY);
            }
            town.undone[order] |= 1 << other;
            town.undoers[other] |= 1 << order;
            town.counts[UNDOINGS]++;
            next();
            return take(';');
        }

        private boolean readsOpen() {
            if (!takesOnce()) {
                return false;
            }
            int age = numberWithin(1, 60);
            if (age == NONE) {
                return false;
            }
            town.openAge = age;
            next();
            return take(';');
        }

        private boolean readsDraw() {
            if (!takesOnce()) {
                return false;
            }
            int draw = numberWithin(0, 999);
            if (draw == NONE) {
                return false;
            }
            town.draw = draw;
            next();
            return take(';');
        }

        /** The first word of a line that can stand but once. */
        private boolean takesOnce() {
            int bit = 1 << kind;
            if ((onceTold & bit) != 0) {
                return refuse(MISPLACED);
            }
            onceTold |= bit;
            next();
            return true;
        }

        private boolean either(int within) {
            if (!both(within)) {
                return false;
            }
            for (int i = 0; i < MOST_UNITS && kind == OR_WORD; i++) {
                next();
                if (!both(within)) {
                    return false;
                }
                town.teach.add(OR_WORD, 0);
            }
            return true;
        }

        private boolean both(int within) {
            if (!one(within)) {
                return false;
            }
            for (int i = 0; i < MOST_UNITS && kind == AND_WORD; i++) {
                next();
                if (!one(within)) {
                    return false;
                }
                town.teach.add(AND_WORD, 0);
            }
            return true;
        }

        private boolean one(int within) {
            int inner = within;
            while (kind == NOT_WORD && inner <= MOST_WITHIN) {
                next();
                inner++;
            }
            if (kind == NOT_WORD) {
                return refuse(MISPLACED);
            }
            if (!related(inner)) {
                return false;
            }
            for (int i = within; i < inner; i++) {
                town.teach.add(NOT_WORD, 0);
            }
            return true;
        }

        private boolean related(int within) {
            if (!sum(within)) {
                return false;
            }
            if (kind == '<' || kind == '>' || kind == '=') {
                int sign = kind;
                next();
                if (!sum(within)) {
                    return false;
                }
                town.teach.add(sign, 0);
            }
            return true;
        }

        private boolean sum(int within) {
            if (!term(within)) {
                return false;
            }
            for (int i = 0; i < MOST_UNITS && (kind == '+' || kind == '-'); i++) {
                int sign = kind;
                next();
                if (!term(within)) {
                    return false;
                }
                town.teach.add(sign, 0);
            }
            return true;
        }

        private boolean term(int within) {
            if (!unit(within)) {
                return false;
            }
            for (int i = 0; i < MOST_UNITS && (kind == '*' || kind == '/' || kind == '%'); i++) {
                int sign = kind;
                next();
                if (!unit(within)) {
                    return false;
                }
                town.teach.add(sign, 0);
            }
            return true;
        }

        private boolean unit(int within) {
            boolean isBracket = kind == '(';
            if (!isBracket && !Formula.isUnit(kind)) {
                return misplaced();
            }
            if (town.teach.units >= MOST_UNITS || (isBracket && within > MOST_WITHIN)) {
                return refuse(MISPLACED);
            }
            town.teach.units++;
            if (!isBracket) {
                town.teach.add(kind, number);
            }
            next();
            return !isBracket || (either(within + 1) && take(')'));
        }

        private boolean take(int wanted) {
            if (kind != wanted) {
                return misplaced();
            }
            next();
            return true;
        }

        private int known(int sort) {
            if (kind != NAME) {
                misplaced();
                return NONE;
            }
            int index = find(sort);
            if (index == NONE) {
                refuse(UNKNOWN_NAME);
            }
            return index;
        }

        private int find(int sort) {
            for (int i = 0; i < town.counts[sort]; i++) {
                if (town.names[sort][i] == name) {
                    return i;
                }
            }
            return NONE;
        }

        private int numberWithin(int least, int most) {
            if (kind != NUMBER) {
                misplaced();
                return NONE;
            }
            if (number < least || number > most) {
                refuse(NO_SUCH_NUMBER);
                return NONE;
            }
            return number;
        }

        private boolean misplaced() {
            return refuse(kind == BAD ? NO_TOKEN : MISPLACED);
        }

        private boolean refuse(int which) {
            fault = which;
            faultPlace = place;
            return false;
        }

        private void next() {
            while (at < length && (text[at] == 32 || text[at] == 10)) {
                at++;
            }
            place = at;
            if (at >= length) {
                kind = END;
            } else if (isLetter(text[at])) {
                scanWord();
            } else if (isDigit(text[at])) {
                scanNumber();
            } else {
                kind = TOKEN_SIGNS.indexOf((char) (text[at] & 255)) < 0 ? BAD : text[at];
                at++;
            }
        }

        private void scanWord() {
            name = 0;
            while (at < length && isLetter(text[at])) {
                name = behind(name, text[at]);
                at++;
            }
            kind = at - place > LONGEST_WORD ? BAD : NAME;
            for (int word = 0; word < WORD_COUNT && kind == NAME; word++) {
                if (words[word] == name) {
                    kind = word;
                }
            }
        }

        private void scanNumber() {
            number = 0;
            while (at < length && isDigit(text[at])) {
                number = number * 10 + text[at] - '0';
                at++;
            }
            boolean tooLong = at - place > MOST_DIGITS;
            boolean isTouched = at < length && isLetter(text[at]);
            kind = tooLong || isTouched ? BAD : NUMBER;
        }

        /** Eight letters of five bits each: two words are alike just when their numbers are. */
        private static long behind(long word, int letter) {
            return word << 5 | (letter - 'a' + 1);
        }

        private static boolean isLetter(int sign) {
            return sign >= 'a' && sign <= 'z';
        }

        private static boolean isDigit(int sign) {
            return sign >= '0' && sign <= '9';
        }
    }

    /** A TOWN as it is at a time, and what comes of it. */
    private static final class Play {
        final int[] cells = new int[CELLS];
        Town told;
        int seed = 0;

        Play(Town town) {
            told = town;
        }

        void begin() {
            seed = told.draw;
            cells[YEAR_NOW] = 0;
            for (int person = 0; person < told.counts[PERSONS]; person++) {
                cells[AGES + person] = told.ages[person];
                cells[HOW + person] = SEALED;
                cells[PREPARED + person] = NONE;
                cells[HELD + person] = drawnOrder(person);
                System.arraycopy(told.levels[person], 0, cells, LEVELS + person * MOST_SKILLS, MOST_SKILLS);
            }
        }

        private int drawnOrder(int person) {
            seed = (seed * 137 + 71) % 1000;
            int all = told.allShares(person);
            if (all <= 0) {
                return NONE;
            }
            int[] shares = told.sharesOf(person);
            int rest = seed % all;
            for (int order = 0; order < told.counts[ORDERS]; order++) {
                if (rest < shares[order]) {
                    return order;
                }
                rest -= shares[order];
            }
            return NONE;
        }

        void copy(Play other) {
            told = other.told;
            System.arraycopy(other.cells, 0, cells, 0, CELLS);
        }

        int levelOf(int person, int skill) {
            return cells[LEVELS + person * MOST_SKILLS + skill];
        }

        boolean isOpened(int person) {
            return cells[HOW + person] >= DONE;
        }

        int unopened() {
            int bits = 0;
            for (int person = 0; person < told.counts[PERSONS]; person++) {
                if (!isOpened(person)) {
                    bits |= 1 << person;
                }
            }
            return bits;
        }

        boolean canDo(int person, int order) {
            return levelOf(person, told.traits[ASKED_SKILL][order]) >= told.traits[ASKED_LEVEL][order];
        }

        int ordersFor(int person) {
            int bits = 0;
            for (int order = 0; order < told.counts[ORDERS]; order++) {
                if (canDo(person, order)) {
                    bits |= 1 << order;
                }
            }
            return bits;
        }

        int countOf(int state) {
            int count = 0;
            for (int person = 0; person < told.counts[PERSONS]; person++) {
                if (cells[HOW + person] == state) {
                    count++;
                }
            }
            return count;
        }

        int doneOrders() {
            int bits = 0;
            for (int person = 0; person < told.counts[PERSONS]; person++) {
                if (cells[HOW + person] == DONE) {
                    bits |= 1 << cells[HELD + person];
                }
            }
            return bits;
        }

        boolean wouldDo(int person, int doneOrders) {
            int order = cells[HELD + person];
            return order != NONE && canDo(person, order) && (told.undoers[order] & doneOrders) == 0;
        }

        void openLetter(int person) {
            if (cells[HELD + person] == NONE) {
                cells[HOW + person] = FREE;
            } else {
                cells[HOW + person] = wouldDo(person, doneOrders()) ? DONE : FAILED;
            }
        }

        int passYear() {
            int opened = 0;
            for (int person = 0; person < told.counts[PERSONS]; person++) {
                if (!isOpened(person)) {
                    learn(person);
                    cells[AGES + person]++;
                    if (cells[AGES + person] >= told.openAge) {
                        openLetter(person);
                        opened++;
                    }
                }
            }
            cells[YEAR_NOW]++;
            return opened;
        }

        private void learn(int person) {
            int skill = cells[PREPARED + person];
            if (skill != NONE) {
                int level = levelOf(person, skill);
                cells[LEVELS + person * MOST_SKILLS + skill] = levelNext(person, skill, level, 0);
            }
        }

        /** The level behind the year that comes when so many years are gone from now on. */
        int levelNext(int person, int skill, int level, int gone) {
            int gain = told.teach.gain(level, cells[AGES + person] + gone, cells[YEAR_NOW] + gone, skill);
            return Math.min(MOST_LEVEL, level + gain);
        }

        int levelBehind(int person, int skill, int years) {
            int level = levelOf(person, skill);
            for (int gone = 0; gone < years; gone++) {
                level = levelNext(person, skill, level, gone);
            }
            return level;
        }

        int yearsTillOpened(int person) {
            return Math.max(1, told.openAge - cells[AGES + person]);
        }

        int yearsTillReady(int person, int order) {
            int skill = told.traits[ASKED_SKILL][order];
            int level = levelOf(person, skill);
            for (int gone = 0; gone <= YEARS_AHEAD; gone++) {
                if (level >= told.traits[ASKED_LEVEL][order]) {
                    return gone;
                }
                level = levelNext(person, skill, level, gone);
            }
            return NONE;
        }

        int worthOf(int person, int order) {
            if (order == NONE) {
                return 1;
            }
            return canDo(person, order) ? told.traits[WORTH][order] : 0;
        }
    }

    /** What a PERSON knows of his LETTER, weighed by the levels that he will have when it is OPENED. */
    private static final class Prospect {
        final int[] best = new int[MOST_SKILLS];
        private final int[] spread = new int[MOST_SKILLS];
        private final int[] levels = new int[MOST_SKILLS];
        private final Play play;
        private int person = 0;
        private int years = 0;

        Prospect(Play whole) {
            play = whole;
        }

        void look(int whose) {
            person = whose;
            years = play.yearsTillOpened(person);
            for (int skill = 0; skill < MOST_SKILLS; skill++) {
                levels[skill] = play.levelOf(person, skill);
            }
            int skill = play.cells[PREPARED + person];
            if (skill != NONE) {
                levels[skill] = play.levelBehind(person, skill, years);
            }
        }

        private boolean knowsIt() {
            return play.cells[HOW + person] == STEAMED || play.told.allShares(person) == 0;
        }

        /** NONE: it is BLANK, as far as he knows. */
        private int knownOrder() {
            return play.cells[HOW + person] == STEAMED ? play.cells[HELD + person] : NONE;
        }

        private boolean canThen(int order) {
            return levels[play.told.traits[ASKED_SKILL][order]] >= play.told.traits[ASKED_LEVEL][order];
        }

        int wholes() {
            return knowsIt() ? 1 : play.told.allShares(person);
        }

        int parts() {
            if (knowsIt()) {
                return knownOrder() == NONE || canThen(knownOrder()) ? 1 : 0;
            }
            int[] shares = play.told.sharesOf(person);
            int sum = 0;
            for (int order = 0; order < play.told.counts[ORDERS]; order++) {
                sum += canThen(order) ? shares[order] : 0;
            }
            return sum;
        }

        int worths() {
            int[] worths = play.told.traits[WORTH];
            if (knowsIt()) {
                return knownOrder() == NONE ? 1 : parts() * worths[knownOrder()];
            }
            int[] shares = play.told.sharesOf(person);
            int sum = 0;
            for (int order = 0; order < play.told.counts[ORDERS]; order++) {
                sum += canThen(order) ? shares[order] * worths[order] : 0;
            }
            return sum;
        }

        /** Spreads are numbered so that the first of like ones comes first. */
        int spreadsBest(int whose) {
            look(whose);
            int skills = play.told.counts[SKILLS];
            int spreads = skills == 0 ? 0 : 1;
            for (int skill = 1; skill < skills; skill++) {
                spreads *= years + 1;
            }
            int most = NONE;
            for (int i = 0; i < spreads; i++) {
                if (fillsYears(i, skills)) {
                    liveSpread(skills);
                    if (parts() > most) {
                        most = parts();
                        System.arraycopy(spread, 0, best, 0, MOST_SKILLS);
                    }
                }
            }
            return most;
        }

        /** All SKILLS but the last are digits of the number; the last one has the years that are left, if any are. */
        private boolean fillsYears(int number, int skills) {
            int rest = number;
            int left = years;
            for (int skill = Math.min(skills, MOST_SKILLS) - 2; skill >= 0; skill--) {
                spread[skill] = rest % (years + 1);
                rest /= years + 1;
                left -= spread[skill];
            }
            spread[skills - 1] = left;
            return left >= 0;
        }

        private void liveSpread(int skills) {
            int gone = 0;
            for (int skill = 0; skill < skills && skill < MOST_SKILLS; skill++) {
                int level = play.levelOf(person, skill);
                for (int i = 0; i < spread[skill]; i++) {
                    level = play.levelNext(person, skill, level, gone);
                    gone++;
                }
                levels[skill] = level;
            }
        }
    }

    /** A set of PERSONS in each of its orders, numbered so that the first of like ones comes first. */
    private static final class Rows {
        final int[] best = new int[MOST_PERSONS];
        private final int[] members = new int[MOST_PERSONS];
        private final int[] row = new int[MOST_PERSONS];
        private final Play play;
        private int size = 0;

        Rows(Play whole) {
            play = whole;
        }

        private void begin(int set) {
            size = 0;
            for (int person = 0; person < MOST_PERSONS; person++) {
                if ((set & 1 << person) != 0) {
                    members[size] = person;
                    size++;
                }
            }
        }

        private int count() {
            int count = 1;
            for (int factor = 2; factor <= size; factor++) {
                count *= factor;
            }
            return count;
        }

        private void turnTo(int number) {
            int rest = number;
            int used = 0;
            int block = count();
            for (int place = 0; place < size; place++) {
                block = Math.max(1, block / (size - place));
                row[place] = memberLeft(used, rest / block);
                used |= 1 << row[place];
                rest %= block;
            }
        }

        private int memberLeft(int used, int ahead) {
            int toPass = ahead;
            for (int i = 0; i < size; i++) {
                if ((used & 1 << members[i]) == 0) {
                    if (toPass == 0) {
                        return members[i];
                    }
                    toPass--;
                }
            }
            return 0;
        }

        /** Then best tells, PERSON by PERSON, whose LETTER each has. */
        int bestRings() {
            begin(play.unopened());
            int most = NONE;
            for (int i = 0; i < count(); i++) {
                turnTo(i);
                int sum = worthTogether();
                if (sum > most) {
                    most = sum;
                    keepRings();
                }
            }
            return most;
        }

        /** NONE if one has less than now. */
        private int worthTogether() {
            int sum = 0;
            for (int i = 0; i < size; i++) {
                int worth = play.worthOf(members[i], play.cells[HELD + row[i]]);
                if (worth < play.worthOf(members[i], play.cells[HELD + members[i]])) {
                    return NONE;
                }
                sum += worth;
            }
            return sum;
        }

        private void keepRings() {
            for (int person = 0; person < MOST_PERSONS; person++) {
                best[person] = NONE;
            }
            for (int i = 0; i < size; i++) {
                best[members[i]] = row[i];
            }
        }

        int bestOpening(int set) {
            begin(set);
            int most = NONE;
            for (int i = 0; i < count(); i++) {
                turnTo(i);
                int sum = doneInTurn();
                if (sum > most) {
                    most = sum;
                    System.arraycopy(row, 0, best, 0, MOST_PERSONS);
                }
            }
            return most;
        }

        private int doneInTurn() {
            int doneOrders = play.doneOrders();
            int sum = 0;
            for (int i = 0; i < size; i++) {
                if (play.wouldDo(row[i], doneOrders)) {
                    doneOrders |= 1 << play.cells[HELD + row[i]];
                    sum++;
                }
            }
            return sum;
        }
    }

    /** The rows of what ACTS left, the oldest first, in a ring. */
    private static final class History {
        int undoable = 0;
        int redoable = 0;
        private final int[][] rows = new int[MOST_ACTS + 1][CELLS];
        private int oldest = 0;

        private int[] rowNow() {
            return rows[(oldest + undoable) % (MOST_ACTS + 1)];
        }

        void clear(int[] cells) {
            oldest = 0;
            undoable = 0;
            redoable = 0;
            System.arraycopy(cells, 0, rowNow(), 0, CELLS);
        }

        void keep(int[] cells) {
            redoable = 0;
            if (undoable < MOST_ACTS) {
                undoable++;
            } else {
                oldest = (oldest + 1) % (MOST_ACTS + 1);
            }
            System.arraycopy(cells, 0, rowNow(), 0, CELLS);
        }

        boolean stepsBack(int[] cells) {
            if (undoable <= 0) {
                return false;
            }
            undoable--;
            redoable++;
            System.arraycopy(rowNow(), 0, cells, 0, CELLS);
            return true;
        }

        boolean stepsOn(int[] cells) {
            if (redoable <= 0) {
                return false;
            }
            undoable++;
            redoable--;
            System.arraycopy(rowNow(), 0, cells, 0, CELLS);
            return true;
        }
    }

    /** SIGNS in two times: since when they are TOLD, and since when UNTOLD. */
    private static final class Signs {
        int count = 0;
        private final int[] persons = new int[MOST_SIGNS];
        private final int[] sorts = new int[MOST_SIGNS];
        private final int[] numbers = new int[MOST_SIGNS];
        private final boolean[] are = new boolean[MOST_SIGNS];
        private final int[] toldAt = new int[MOST_SIGNS];
        private final int[] untoldAt = new int[MOST_SIGNS];

        int tell(int person, int sort, int number, boolean is, int time) {
            if (count >= MOST_SIGNS) {
                return NONE;
            }
            persons[count] = person;
            sorts[count] = sort;
            numbers[count] = number;
            are[count] = is;
            toldAt[count] = time;
            untoldAt[count] = NONE;
            count++;
            return count - 1;
        }

        boolean takesBack(int sign, int time) {
            if (sign < 0 || sign >= count || untoldAt[sign] != NONE) {
                return false;
            }
            untoldAt[sign] = time;
            return true;
        }

        private boolean counts(int sign, int k) {
            return toldAt[sign] <= k && (untoldAt[sign] == NONE || untoldAt[sign] > k);
        }

        int fitting(Town town, int person, int k) {
            int[] shares = town.sharesOf(person);
            int bits = 0;
            for (int order = 0; order < town.counts[ORDERS]; order++) {
                if (shares[order] > 0 && fits(town, person, order, k)) {
                    bits |= 1 << order;
                }
            }
            return bits;
        }

        private boolean fits(Town town, int person, int order, int k) {
            for (int sign = 0; sign < count; sign++) {
                if (persons[sign] == person && counts(sign, k)) {
                    boolean is = seen(town, order, sorts[sign]) == numbers[sign];
                    if (is != are[sign]) {
                        return false;
                    }
                }
            }
            return true;
        }

        private static int seen(Town town, int order, int sort) {
            switch (sort) {
                case 0: return town.traits[SEAL][order];
                case 1: return town.traits[WEIGHT][order];
                default: return town.traits[ASKED_SKILL][order];
            }
        }

        static int mostLeft(Town town, int orders, int sort) {
            int most = 0;
            for (int order = 0; order < town.counts[ORDERS]; order++) {
                int like = 0;
                for (int other = 0; other < town.counts[ORDERS]; other++) {
                    boolean isLike = seen(town, order, sort) == seen(town, other, sort);
                    like += (orders & 1 << other) != 0 && isLike ? 1 : 0;
                }
                most = (orders & 1 << order) != 0 ? Math.max(most, like) : most;
            }
            return most;
        }
    }
}
