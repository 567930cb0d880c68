import java.util.Arrays;
import java.util.NoSuchElementException;

/** Halls of tables, rules and rows, where runs of the rules make, melt or forbid rows. */
public final class ChaseHall {
    public static final int NONE = -1;

    private static final int HALLS = 3;
    private static final int LETTERS = 26;
    private static final int MOST_TABLES = 6;
    private static final int MOST_COLUMNS = 3;
    private static final int MOST_RULES = 10;
    private static final int MOST_ATOMS = 3;
    private static final int MOST_ROWS = 40;
    private static final int ROW_NUMBERS = 200;
    private static final int MOST_STEPS = 100;
    private static final int MOST_TRIES = 20000;
    private static final int MOST_TAPE = 1000;
    private static final int FED_BYTES = 20;
    private static final int MOST_ASKED = 3;
    private static final int MOST_ASKED_ATOMS = 2;

    private static final int VALUES = 100;
    private static final int NAMELESS_ONES = 100;
    /** A NAMELESS one is told as this and its number. */
    private static final int NAMELESS = 1000;
    /** A VARIABLE in a RULE is kept as this and its letter, so that it is no TERM. */
    private static final int VARIABLE = 2000;

    private static final int MAKES = 0;
    private static final int MELTS = 1;
    private static final int FORBIDS = 2;

    private static final int NOT_RUN = 0;
    private static final int ENDED = 1;
    private static final int FAILED = 2;
    private static final int SPENT = 3;

    private static final int NO_LEAD = 0;
    private static final int LED = 1;
    private static final int LEAD_SPENT = 2;

    private static final int MISPLACED = 1;
    private static final int WRONG_TABLE = 2;
    private static final int WRONG_COLUMNS = 3;
    private static final int TOO_MUCH = 4;
    private static final int UNKNOWN_VARIABLE = 5;

    private static final int STEP_RULE = 0;
    private static final int STEP_MADE = 1;
    private static final int STEP_ROWS = 2;
    private static final int STEP_WENT = 5;
    private static final int STEP_BECAME = 6;
    private static final int STEP_SIZE = 7;

    /** Far above what any search between two findings can need. */
    private static final int MOST_TURNS = 1000000;
    private static final int MOST_HITS = MOST_ROWS * MOST_ROWS * MOST_ROWS;

    private final Hall[] halls = new Hall[HALLS];
    /** Where texts are read and runs are tried that may not change a HALL. */
    private final Hall spare = new Hall();
    private final int[] tape = new int[MOST_TAPE];
    private int tapeLength = 0;
    private final Parser parser = new Parser();
    private final Rule told = new Rule();
    private final Finder finder = new Finder();
    private final Lead latestLead = new Lead();
    private final Lead coreLead = new Lead();
    private final Ways ways = new Ways();
    private final Answers answers = new Answers();

    public ChaseHall() {
        for (int h = 0; h < HALLS; h++) {
            halls[h] = new Hall();
        }
    }

    public int feed(int a, int b, int c, int d, int e) {
        if (tapeLength + FED_BYTES > MOST_TAPE) {
            return NONE;
        }
        appendBytes(a);
        appendBytes(b);
        appendBytes(c);
        appendBytes(d);
        appendBytes(e);
        return tapeLength;
    }

    public boolean end(int n) {
        if (n < 0 || n > tapeLength) {
            return false;
        }
        tapeLength = n;
        return true;
    }

    public int load(int h) throws IndexOutOfBoundsException {
        Hall hall = hallAt(h);
        giveTape();
        if (!parser.readText(spare)) {
            return NONE;
        }
        hall.takeFrom(spare);
        return hall.rows.count;
    }

    public int fault(int what) {
        if (what == 0) {
            return parser.fault;
        }
        return what == 1 ? parser.faultPlace : NONE;
    }

    public int copy(int h, int to) throws IndexOutOfBoundsException {
        Hall from = hallAt(h);
        Hall target = hallAt(to);
        if (h != to) {
            target.takeFrom(from);
        }
        return target.rows.count;
    }

    public int look(int h, int what) throws IndexOutOfBoundsException {
        Hall hall = hallAt(h);
        switch (what) {
            case 0: return hall.tableCount;
            case 1: return hall.ruleCount;
            case 2: return hall.rows.count;
            case 3: return hall.rows.nextNumber;
            case 4: return hall.rows.countNameless();
            case 5: return hall.log.state;
            case 6: return hall.log.count;
            case 7: return hall.rows.leastUnused(0);
            default: return NONE;
        }
    }

    public int row(int h, int i, int what) throws IndexOutOfBoundsException {
        Rows rows = hallAt(h).rows;
        if (i < 0 || i >= rows.count) {
            return NONE;
        }
        if (what == 0) {
            return rows.number[i];
        }
        if (what == 1) {
            return rows.table[i];
        }
        return rows.termAt(i, what - 2);
    }

    public int put(int h, int table, int x, int y, int z) throws IndexOutOfBoundsException {
        Hall hall = hallAt(h);
        int columns = hall.columnsOf(table);
        if (columns == 0) {
            return NONE;
        }
        int second = columns > 1 ? y : NONE;
        int third = columns > 2 ? z : NONE;
        if (!isTerm(x) || columns > 1 && !isTerm(y) || columns > 2 && !isTerm(z)) {
            return NONE;
        }
        int alike = hall.rows.find(table, x, second, third);
        if (alike != NONE) {
            return hall.rows.numberAt(alike);
        }
        int number = hall.rows.add(table, x, second, third);
        if (number != NONE) {
            hall.log.state = NOT_RUN;
        }
        return number;
    }

    public boolean strike(int h, int number) throws IndexOutOfBoundsException {
        Hall hall = hallAt(h);
        int position = hall.rows.positionOf(number);
        if (position == NONE) {
            return false;
        }
        hall.rows.removeAt(position);
        hall.log.state = NOT_RUN;
        return true;
    }

    public int run(int h, int steps) throws IndexOutOfBoundsException {
        Hall hall = hallAt(h);
        if (steps < 0 || steps > MOST_STEPS) {
            return NONE;
        }
        return hall.chase(finder, steps);
    }

    public int step(int h, int i, int what) throws IndexOutOfBoundsException {
        return hallAt(h).log.tell(i, what);
    }

    public int by(int h, int number) throws IndexOutOfBoundsException {
        return hallAt(h).log.makerOf(number);
    }

    public int holds(int h, int r) throws IndexOutOfBoundsException {
        Hall hall = hallAt(h);
        if (!hall.hasRule(r)) {
            return NONE;
        }
        return finder.findOpen(hall.rules[r], hall.rows) ? 0 : 1;
    }

    public int hit(int h, int r, int i) throws IndexOutOfBoundsException {
        Hall hall = hallAt(h);
        if (!hall.hasRule(r) || i < 0 || i >= hall.rules[r].ahead.count) {
            return NONE;
        }
        if (!finder.findOpen(hall.rules[r], hall.rows)) {
            return NONE;
        }
        return finder.openNumber(hall.rows, i);
    }

    public int hits(int h, int r) throws IndexOutOfBoundsException {
        Hall hall = hallAt(h);
        if (!hall.hasRule(r)) {
            return NONE;
        }
        return finder.countAll(hall.rules[r].ahead, hall.rows);
    }

    public int leads(int h, int to) throws IndexOutOfBoundsException {
        Hall from = hallAt(h);
        Hall target = hallAt(to);
        int outcome = latestLead.seek(from, target, NONE);
        if (outcome != LED) {
            latestLead.forget();
        }
        return outcome;
    }

    public int stands(int nameless) {
        return latestLead.termFor(nameless);
    }

    public int core(int h) throws IndexOutOfBoundsException {
        Hall hall = hallAt(h);
        // The work is done on a copy: a search that is SPENT late must leave the HALL whole.
        spare.takeFrom(hall);
        int outcome = LED;
        for (int round = 0; round <= MOST_ROWS && outcome == LED; round++) {
            outcome = shrink(spare);
        }
        if (outcome == LEAD_SPENT) {
            return NONE;
        }
        int went = hall.rows.count - spare.rows.count;
        hall.rows.takeFrom(spare.rows);
        return went;
    }

    public int ask(int h) throws IndexOutOfBoundsException {
        Hall hall = hallAt(h);
        giveTape();
        if (!parser.readQuestion(told.ahead, hall)) {
            return NONE;
        }
        collectAnswers(told.ahead, hall.rows);
        return answers.count;
    }

    public int answer(int i, int k) {
        return answers.part(i, k);
    }

    public int follows(int h) throws IndexOutOfBoundsException {
        Hall hall = hallAt(h);
        giveTape();
        if (!parser.readTold(told, hall)) {
            return NONE;
        }
        spare.takeFrom(hall);
        spare.rows.clear();
        finder.nameEach(told.ahead);
        for (int a = 0; a < told.ahead.count; a++) {
            spare.addMatched(finder, told.ahead, a);
        }
        int state = spare.chase(finder, MOST_STEPS);
        if (state == SPENT) {
            return 2;
        }
        return state == FAILED || isToldFulfilled() ? 1 : 0;
    }

    public int ends(int h) throws IndexOutOfBoundsException {
        return ways.measure(hallAt(h)) ? 1 : 0;
    }

    public int rank(int h, int table, int column) throws IndexOutOfBoundsException {
        Hall hall = hallAt(h);
        if (column < 0 || column >= hall.columnsOf(table)) {
            return NONE;
        }
        return ways.measure(hall) ? ways.rankOf(table, column) : NONE;
    }

    public int columns(int h, int table) throws IndexOutOfBoundsException, NoSuchElementException {
        int columns = hallAt(h).columnsOf(table);
        if (columns == 0) {
            throw new NoSuchElementException("no such table");
        }
        return columns;
    }

    private Hall hallAt(int h) {
        if (h < 0 || h >= HALLS) {
            throw new IndexOutOfBoundsException("no such hall");
        }
        return halls[h];
    }

    private void appendBytes(int word) {
        for (int shift = 24; shift >= 0 && tapeLength < MOST_TAPE; shift -= 8) {
            tape[tapeLength] = (word >>> shift) & 255;
            tapeLength++;
        }
    }

    private void giveTape() {
        parser.begin(tape, tapeLength);
        tapeLength = 0;
    }

    /** One round towards the CORE; LED if ROWS went. */
    private int shrink(Hall hall) {
        int rowCount = hall.rows.count;
        for (int without = 0; without < rowCount; without++) {
            int outcome = coreLead.seek(hall, hall, without);
            if (outcome == LED) {
                for (int position = rowCount - 1; position >= 0; position--) {
                    if (!coreLead.reaches(position)) {
                        hall.rows.removeAt(position);
                    }
                }
            }
            if (outcome != NO_LEAD) {
                return outcome;
            }
        }
        return NO_LEAD;
    }

    private void collectAnswers(Atoms question, Rows rows) {
        answers.begin(parser.askedCount);
        finder.begin(rows);
        for (int n = 0; n < MOST_HITS && finder.next(question, rows); n++) {
            int code = 0;
            boolean named = true;
            for (int k = 0; k < MOST_ASKED; k++) {
                int term = k < parser.askedCount ? finder.termOf(parser.asked[k]) : 0;
                named = named && term >= 0 && term < VALUES;
                code = code * VALUES + term;
            }
            if (named) {
                answers.insert(code);
            }
        }
    }

    /** The HIT of the told RULE is found again by its VARIABLES, since its ROWS may have become one. */
    private boolean isToldFulfilled() {
        finder.nameEach(told.ahead);
        Log log = spare.log;
        for (int i = 0; i < log.count; i++) {
            finder.meltBound(log.tell(i, STEP_WENT), log.tell(i, STEP_BECAME));
        }
        return finder.isFulfilled(told, spare.rows);
    }

    private static boolean isTerm(int term) {
        return term >= 0 && term < VALUES || isNameless(term);
    }

    private static boolean isNameless(int term) {
        return term >= NAMELESS && term < NAMELESS + NAMELESS_ONES;
    }

    /** Up to three ATOMS; places beyond a TABLE's COLUMNS are NONE. */
    private static final class Atoms {
        int count = 0;
        final int[] table = new int[MOST_ATOMS];
        final int[] place = new int[MOST_ATOMS * MOST_COLUMNS];

        void clear() {
            count = 0;
        }

        void takeFrom(Atoms other) {
            count = other.count;
            System.arraycopy(other.table, 0, table, 0, MOST_ATOMS);
            System.arraycopy(other.place, 0, place, 0, MOST_ATOMS * MOST_COLUMNS);
        }

        void add(int letter, int x, int y, int z) {
            if (count >= MOST_ATOMS) {
                return;
            }
            table[count] = letter;
            place[count * MOST_COLUMNS] = x;
            place[count * MOST_COLUMNS + 1] = y;
            place[count * MOST_COLUMNS + 2] = z;
            count++;
        }

        int placeAt(int a, int column) {
            if (a < 0 || a >= count || column < 0 || column >= MOST_COLUMNS) {
                return NONE;
            }
            return place[a * MOST_COLUMNS + column];
        }

        boolean mentions(int variable) {
            for (int i = 0; i < count * MOST_COLUMNS; i++) {
                if (place[i] == variable) {
                    return true;
                }
            }
            return false;
        }

        boolean hasAtom(int letter, int x, int y, int z) {
            for (int a = 0; a < count; a++) {
                int at = a * MOST_COLUMNS;
                if (table[a] == letter && place[at] == x && place[at + 1] == y && place[at + 2] == z) {
                    return true;
                }
            }
            return false;
        }
    }

    private static final class Rule {
        int kind = FORBIDS;
        final Atoms ahead = new Atoms();
        final Atoms behind = new Atoms();
        int left = NONE;
        int right = NONE;

        void clear() {
            kind = FORBIDS;
            ahead.clear();
            behind.clear();
            left = NONE;
            right = NONE;
        }

        void takeFrom(Rule other) {
            kind = other.kind;
            ahead.takeFrom(other.ahead);
            behind.takeFrom(other.behind);
            left = other.left;
            right = other.right;
        }

        boolean isNew(int place) {
            return place >= VARIABLE && !ahead.mentions(place);
        }
    }

    /** The ROWS that are there, by numbers; terms beyond a TABLE's COLUMNS are NONE. */
    private static final class Rows {
        int count = 0;
        int nextNumber = 0;
        final int[] number = new int[MOST_ROWS];
        final int[] table = new int[MOST_ROWS];
        final int[] term = new int[MOST_ROWS * MOST_COLUMNS];
        /** 1 for each NAMELESS one that ever was there. */
        private final int[] used = new int[NAMELESS_ONES];

        void clear() {
            count = 0;
            nextNumber = 0;
            Arrays.fill(used, 0);
        }

        void takeFrom(Rows other) {
            count = other.count;
            nextNumber = other.nextNumber;
            System.arraycopy(other.number, 0, number, 0, MOST_ROWS);
            System.arraycopy(other.table, 0, table, 0, MOST_ROWS);
            System.arraycopy(other.term, 0, term, 0, MOST_ROWS * MOST_COLUMNS);
            System.arraycopy(other.used, 0, used, 0, NAMELESS_ONES);
        }

        boolean hasRoomFor(int more) {
            return count + more <= MOST_ROWS && nextNumber + more <= ROW_NUMBERS;
        }

        int termAt(int position, int column) {
            if (position < 0 || position >= count || column < 0 || column >= MOST_COLUMNS) {
                return NONE;
            }
            return term[position * MOST_COLUMNS + column];
        }

        int numberAt(int position) {
            return position < 0 || position >= count ? NONE : number[position];
        }

        int positionOf(int wanted) {
            for (int p = 0; p < count; p++) {
                if (number[p] == wanted) {
                    return p;
                }
            }
            return NONE;
        }

        int find(int letter, int x, int y, int z) {
            for (int p = 0; p < count; p++) {
                int at = p * MOST_COLUMNS;
                if (table[p] == letter && term[at] == x && term[at + 1] == y && term[at + 2] == z) {
                    return p;
                }
            }
            return NONE;
        }

        /** The number that the ROW gets, or NONE where there is no room. */
        int add(int letter, int x, int y, int z) {
            if (!hasRoomFor(1)) {
                return NONE;
            }
            number[count] = nextNumber;
            table[count] = letter;
            term[count * MOST_COLUMNS] = x;
            term[count * MOST_COLUMNS + 1] = y;
            term[count * MOST_COLUMNS + 2] = z;
            markUsed(x);
            markUsed(y);
            markUsed(z);
            count++;
            nextNumber++;
            return nextNumber - 1;
        }

        private void markUsed(int given) {
            if (isNameless(given)) {
                used[given - NAMELESS] = 1;
            }
        }

        void removeAt(int position) {
            if (position < 0 || position >= count) {
                return;
            }
            int behind = count - position - 1;
            System.arraycopy(number, position + 1, number, position, behind);
            System.arraycopy(table, position + 1, table, position, behind);
            System.arraycopy(term, (position + 1) * MOST_COLUMNS, term, position * MOST_COLUMNS,
                    behind * MOST_COLUMNS);
            count--;
        }

        void melt(int went, int became) {
            for (int i = 0; i < count * MOST_COLUMNS; i++) {
                if (term[i] == went) {
                    term[i] = became;
                }
            }
            for (int p = count - 1; p > 0; p--) {
                int at = p * MOST_COLUMNS;
                if (find(table[p], term[at], term[at + 1], term[at + 2]) < p) {
                    removeAt(p);
                }
            }
        }

        int countNameless() {
            int found = 0;
            for (int n = 0; n < NAMELESS_ONES; n++) {
                if (used[n] == 1 && mentions(NAMELESS + n)) {
                    found++;
                }
            }
            return found;
        }

        private boolean mentions(int wanted) {
            for (int i = 0; i < count * MOST_COLUMNS; i++) {
                if (term[i] == wanted) {
                    return true;
                }
            }
            return false;
        }

        /** The least number from a given one on that no NAMELESS one ever had; 100 if all had. */
        int leastUnused(int from) {
            for (int n = from; n >= 0 && n < NAMELESS_ONES; n++) {
                if (used[n] == 0) {
                    return n;
                }
            }
            return NAMELESS_ONES;
        }
    }

    /** What the latest run came to, and its STEPS. */
    private static final class Log {
        int state = NOT_RUN;
        int count = 0;
        private final int[] steps = new int[MOST_STEPS * STEP_SIZE];
        private final int[] makers = new int[ROW_NUMBERS];

        Log() {
            Arrays.fill(makers, NONE);
        }

        void clear() {
            state = NOT_RUN;
            count = 0;
            Arrays.fill(makers, NONE);
        }

        void takeFrom(Log other) {
            state = other.state;
            count = other.count;
            System.arraycopy(other.steps, 0, steps, 0, MOST_STEPS * STEP_SIZE);
            System.arraycopy(other.makers, 0, makers, 0, ROW_NUMBERS);
        }

        int tell(int i, int what) {
            if (i < 0 || i >= count || what < 0 || what >= STEP_SIZE) {
                return NONE;
            }
            return steps[i * STEP_SIZE + what];
        }

        int makerOf(int number) {
            return number < 0 || number >= ROW_NUMBERS ? NONE : makers[number];
        }

        /** Says that a ROW comes by the STEP that is noted next. */
        void noteMade(int number) {
            if (number >= 0 && number < ROW_NUMBERS) {
                makers[number] = count;
            }
        }

        void noteStep(int rule, int made, int went, int became) {
            if (count >= MOST_STEPS) {
                return;
            }
            int at = count * STEP_SIZE;
            steps[at + STEP_RULE] = rule;
            steps[at + STEP_MADE] = made;
            for (int a = 0; a < MOST_ATOMS; a++) {
                steps[at + STEP_ROWS + a] = NONE;
            }
            steps[at + STEP_WENT] = went;
            steps[at + STEP_BECAME] = became;
            count++;
        }

        /** Completes the latest STEP by a ROW of its HIT. */
        void noteHitRow(int a, int number) {
            if (count > 0 && a >= 0 && a < MOST_ATOMS) {
                steps[(count - 1) * STEP_SIZE + STEP_ROWS + a] = number;
            }
        }
    }

    private static final class Hall {
        int tableCount = 0;
        int ruleCount = 0;
        final int[] columns = new int[LETTERS];
        final Rule[] rules = new Rule[MOST_RULES];
        final Rows rows = new Rows();
        final Log log = new Log();
        private final Atoms planned = new Atoms();

        Hall() {
            for (int r = 0; r < MOST_RULES; r++) {
                rules[r] = new Rule();
            }
        }

        void clear() {
            tableCount = 0;
            ruleCount = 0;
            Arrays.fill(columns, 0);
            rows.clear();
            log.clear();
        }

        void takeFrom(Hall other) {
            tableCount = other.tableCount;
            ruleCount = other.ruleCount;
            System.arraycopy(other.columns, 0, columns, 0, LETTERS);
            for (int r = 0; r < MOST_RULES; r++) {
                rules[r].takeFrom(other.rules[r]);
            }
            rows.takeFrom(other.rows);
            log.takeFrom(other.log);
        }

        /** 0 where there is no such TABLE. */
        int columnsOf(int letter) {
            return letter < 0 || letter >= LETTERS ? 0 : columns[letter];
        }

        void addTable(int letter, int width) {
            if (letter >= 0 && letter < LETTERS) {
                columns[letter] = width;
                tableCount++;
            }
        }

        boolean hasRule(int r) {
            return r >= 0 && r < ruleCount && r < MOST_RULES;
        }

        int chase(Finder finder, int most) {
            log.clear();
            int outcome = NOT_RUN;
            int first = 0;
            for (int made = 0; made <= most && outcome == NOT_RUN; made++) {
                int r = openRule(finder, first);
                if (r == NONE) {
                    outcome = ENDED;
                } else if (made == most) {
                    outcome = SPENT;
                } else {
                    outcome = takeStep(finder, r);
                    first = r + 1;
                }
            }
            log.state = outcome;
            return outcome;
        }

        /** The first RULE, going round from a given one, that does not HOLD; the finder keeps its HIT. */
        private int openRule(Finder finder, int first) {
            for (int n = 0; n < ruleCount; n++) {
                int r = first + n;
                if (r >= ruleCount) {
                    r -= ruleCount;
                }
                if (hasRule(r) && finder.findOpen(rules[r], rows)) {
                    return r;
                }
            }
            return NONE;
        }

        /** FAILED, SPENT, or NOT_RUN where the run goes on. */
        private int takeStep(Finder finder, int r) {
            Rule rule = rules[r];
            finder.bindOpen(rule.ahead, rows);
            if (rule.kind == MAKES) {
                return makeRows(finder, r);
            }
            if (rule.kind == MELTS) {
                return meltTerms(finder, r);
            }
            noteStep(finder, r, 0, NONE, NONE);
            return FAILED;
        }

        private void noteStep(Finder finder, int r, int made, int went, int became) {
            log.noteStep(r, made, went, became);
            for (int a = 0; a < rules[r].ahead.count; a++) {
                log.noteHitRow(a, finder.openNumber(rows, a));
            }
        }

        private int meltTerms(Finder finder, int r) {
            int left = finder.termOf(rules[r].left);
            int right = finder.termOf(rules[r].right);
            if (!isNameless(left) && !isNameless(right)) {
                noteStep(finder, r, 0, left, right);
                return FAILED;
            }
            // NAMELESS ones are told by greater numbers than VALUES, so the greater one always goes.
            int went = Math.max(left, right);
            int became = Math.min(left, right);
            noteStep(finder, r, 0, went, became);
            rows.melt(went, became);
            return NOT_RUN;
        }

        private int makeRows(Finder finder, int r) {
            Atoms behind = rules[r].behind;
            if (!finder.nameNew(behind, rows)) {
                return SPENT;
            }
            planned.clear();
            for (int a = 0; a < behind.count; a++) {
                plan(finder, behind, a);
            }
            if (!rows.hasRoomFor(planned.count)) {
                return SPENT;
            }
            for (int a = 0; a < planned.count; a++) {
                log.noteMade(rows.add(planned.table[a], planned.placeAt(a, 0), planned.placeAt(a, 1),
                        planned.placeAt(a, 2)));
            }
            noteStep(finder, r, planned.count, NONE, NONE);
            return NOT_RUN;
        }

        private void plan(Finder finder, Atoms atoms, int a) {
            int letter = atoms.table[a];
            int x = finder.termOf(atoms.placeAt(a, 0));
            int y = finder.termOf(atoms.placeAt(a, 1));
            int z = finder.termOf(atoms.placeAt(a, 2));
            if (rows.find(letter, x, y, z) == NONE && !planned.hasAtom(letter, x, y, z)) {
                planned.add(letter, x, y, z);
            }
        }

        /** Adds the ROW that an ATOM is by the finder's TERMS, if it is not there. */
        void addMatched(Finder finder, Atoms atoms, int a) {
            planned.clear();
            plan(finder, atoms, a);
            if (planned.count > 0) {
                rows.add(planned.table[0], planned.placeAt(0, 0), planned.placeAt(0, 1),
                        planned.placeAt(0, 2));
            }
        }
    }

    /** Goes through HITS, ATOM by ATOM, and holds what VARIABLES stand for meanwhile. */
    private static final class Finder {
        private final int[] bound = new int[LETTERS];
        private final int[] trail = new int[LETTERS];
        private int trailSize = 0;
        private final int[] chosen = new int[MOST_ATOMS];
        private final int[] mark = new int[MOST_ATOMS];
        private final int[] open = new int[MOST_ATOMS];
        private int depth = NONE;
        private int limit = 0;

        Finder() {
            Arrays.fill(bound, NONE);
        }

        private void unbindAll() {
            Arrays.fill(bound, NONE);
            trailSize = 0;
        }

        private void undoTo(int size) {
            for (int n = trailSize; n > size && n > 0; n--) {
                bound[trail[n - 1]] = NONE;
                trailSize = n - 1;
            }
        }

        private void bind(int letter, int term) {
            if (trailSize < LETTERS && letter >= 0 && letter < LETTERS) {
                bound[letter] = term;
                trail[trailSize] = letter;
                trailSize++;
            }
        }

        /** What a PLACE stands for; NONE for a VARIABLE that stands for nothing yet. */
        int termOf(int place) {
            int letter = place - VARIABLE;
            return letter < 0 || letter >= LETTERS ? place : bound[letter];
        }

        private boolean fits(Atoms atoms, int a, Rows rows, int position) {
            if (atoms.table[a] != rows.table[position]) {
                return false;
            }
            int before = trailSize;
            for (int c = 0; c < MOST_COLUMNS; c++) {
                int place = atoms.place[a * MOST_COLUMNS + c];
                int term = rows.term[position * MOST_COLUMNS + c];
                int wanted = termOf(place);
                if (place >= VARIABLE && wanted == NONE) {
                    bind(place - VARIABLE, term);
                } else if (wanted != term) {
                    undoTo(before);
                    return false;
                }
            }
            return true;
        }

        void begin(Rows rows) {
            unbindAll();
            depth = 0;
            chosen[0] = NONE;
            mark[0] = 0;
            limit = rows.count;
        }

        /** Goes on to the next HIT, ordered by its ROWS ATOM by ATOM; false if there is none more. */
        boolean next(Atoms atoms, Rows rows) {
            if (depth >= atoms.count) {
                depth = atoms.count - 1;
            }
            for (int turn = 0; turn < MOST_TURNS && depth >= 0; turn++) {
                undoTo(mark[depth]);
                chosen[depth]++;
                if (chosen[depth] >= limit) {
                    depth--;
                } else if (fits(atoms, depth, rows, chosen[depth])) {
                    depth++;
                    if (depth >= atoms.count) {
                        return true;
                    }
                    chosen[depth] = NONE;
                    mark[depth] = trailSize;
                }
            }
            return false;
        }

        int countAll(Atoms atoms, Rows rows) {
            begin(rows);
            int found = 0;
            for (int n = 0; n < MOST_HITS && next(atoms, rows); n++) {
                found++;
            }
            return found;
        }

        /** Whether a RULE has a HIT that is not FULFILLED; the first such one is kept. */
        boolean findOpen(Rule rule, Rows rows) {
            begin(rows);
            boolean found = false;
            for (int n = 0; n < MOST_HITS && next(rule.ahead, rows); n++) {
                if (!isFulfilled(rule, rows)) {
                    found = true;
                    keepOpen(rule.ahead.count);
                }
            }
            return found;
        }

        /**
         * Keeps the HIT found and goes on below its greatest ROW alone: HITS come ATOM by ATOM, so
         * of those with one greatest ROW the first is found first.
         */
        private void keepOpen(int atomCount) {
            int greatest = 0;
            for (int a = 0; a < atomCount; a++) {
                open[a] = chosen[a];
                greatest = Math.max(greatest, chosen[a]);
            }
            limit = greatest;
            for (int a = atomCount - 1; a >= 0; a--) {
                if (chosen[a] >= limit) {
                    depth = a;
                }
            }
        }

        int openNumber(Rows rows, int a) {
            return a < 0 || a >= MOST_ATOMS ? NONE : rows.numberAt(open[a]);
        }

        void bindOpen(Atoms atoms, Rows rows) {
            unbindAll();
            for (int a = 0; a < atoms.count; a++) {
                if (open[a] >= 0 && open[a] < rows.count) {
                    fits(atoms, a, rows, open[a]);
                }
            }
        }

        boolean isFulfilled(Rule rule, Rows rows) {
            if (rule.kind == MAKES) {
                return canStand(rule.behind, 0, rows);
            }
            return rule.kind == MELTS && termOf(rule.left) == termOf(rule.right);
        }

        /** Whether the ATOMS from a given one on are ROWS, by some TERMS for what is still free. */
        private boolean canStand(Atoms atoms, int a, Rows rows) {
            if (a >= atoms.count) {
                return true;
            }
            for (int p = 0; p < rows.count; p++) {
                int before = trailSize;
                if (fits(atoms, a, rows, p)) {
                    boolean stands = canStand(atoms, a + 1, rows);
                    undoTo(before);
                    if (stands) {
                        return true;
                    }
                }
            }
            return false;
        }

        /** Gives the free VARIABLES unused NAMELESS ones; false if these do not suffice. */
        boolean nameNew(Atoms atoms, Rows rows) {
            int from = 0;
            for (int i = 0; i < atoms.count * MOST_COLUMNS; i++) {
                int letter = atoms.place[i] - VARIABLE;
                if (letter >= 0 && letter < LETTERS && bound[letter] == NONE) {
                    int least = rows.leastUnused(from);
                    if (least >= NAMELESS_ONES) {
                        return false;
                    }
                    bind(letter, NAMELESS + least);
                    from = least + 1;
                }
            }
            return true;
        }

        /** Each VARIABLE stands for a NAMELESS one of its own, from 0 on. */
        void nameEach(Atoms atoms) {
            unbindAll();
            for (int i = 0; i < atoms.count * MOST_COLUMNS; i++) {
                int letter = atoms.place[i] - VARIABLE;
                if (letter >= 0 && letter < LETTERS && bound[letter] == NONE) {
                    bind(letter, NAMELESS + trailSize);
                }
            }
        }

        void meltBound(int went, int became) {
            for (int letter = 0; letter < LETTERS; letter++) {
                if (bound[letter] != NONE && bound[letter] == went) {
                    bound[letter] = became;
                }
            }
        }
    }

    /** Looks for a LEAD of a HALL's ROWS into those of another one, and keeps what it found. */
    private static final class Lead {
        private final int[] standsFor = new int[NAMELESS_ONES];
        private final int[] trail = new int[NAMELESS_ONES];
        private int trailSize = 0;
        private final int[] chosen = new int[MOST_ROWS];
        private final int[] mark = new int[MOST_ROWS];
        private int length = 0;

        Lead() {
            Arrays.fill(standsFor, NONE);
        }

        void forget() {
            Arrays.fill(standsFor, NONE);
            trailSize = 0;
            length = 0;
        }

        int termFor(int nameless) {
            return nameless < 0 || nameless >= NAMELESS_ONES ? NONE : standsFor[nameless];
        }

        /** Whether some ROW becomes the one at a position. */
        boolean reaches(int position) {
            for (int d = 0; d < length; d++) {
                if (chosen[d] == position) {
                    return true;
                }
            }
            return false;
        }

        /** LED, NO_LEAD or LEAD_SPENT; the ROW at position without (or NONE) is no ROW of the other one. */
        int seek(Hall from, Hall to, int without) {
            forget();
            int depth = 0;
            int tries = 0;
            length = from.rows.count;
            chosen[0] = NONE;
            mark[0] = 0;
            for (int turn = 0; turn < MOST_TURNS && depth >= 0; turn++) {
                if (depth >= length) {
                    return LED;
                }
                undoTo(mark[depth]);
                chosen[depth] = nextOfTable(from, depth, to, chosen[depth] + 1, without);
                if (chosen[depth] == NONE) {
                    depth--;
                } else if (tries == MOST_TRIES) {
                    return LEAD_SPENT;
                } else {
                    tries++;
                    if (fits(from.rows, depth, to.rows, chosen[depth])) {
                        depth++;
                        enter(depth);
                    }
                }
            }
            return NO_LEAD;
        }

        private void enter(int depth) {
            if (depth < MOST_ROWS) {
                chosen[depth] = NONE;
                mark[depth] = trailSize;
            }
        }

        private static int nextOfTable(Hall from, int position, Hall to, int first, int without) {
            int letter = from.rows.table[position];
            if (from.columnsOf(letter) != to.columnsOf(letter)) {
                return NONE;
            }
            for (int p = first; p < to.rows.count; p++) {
                if (p != without && to.rows.table[p] == letter) {
                    return p;
                }
            }
            return NONE;
        }

        private boolean fits(Rows from, int position, Rows to, int target) {
            int before = trailSize;
            for (int c = 0; c < MOST_COLUMNS; c++) {
                if (!agrees(from.termAt(position, c), to.termAt(target, c))) {
                    undoTo(before);
                    return false;
                }
            }
            return true;
        }

        private boolean agrees(int term, int other) {
            if (!isNameless(term)) {
                return term == other;
            }
            int nameless = term - NAMELESS;
            if (standsFor[nameless] != NONE) {
                return standsFor[nameless] == other;
            }
            if (trailSize < NAMELESS_ONES) {
                standsFor[nameless] = other;
                trail[trailSize] = nameless;
                trailSize++;
            }
            return true;
        }

        private void undoTo(int size) {
            for (int n = trailSize; n > size && n > 0; n--) {
                standsFor[trail[n - 1]] = NONE;
                trailSize = n - 1;
            }
        }
    }

    /** The ways between PLACES, and the RANKS that they give. */
    private static final class Ways {
        private static final int MOST_PLACES = MOST_TABLES * MOST_COLUMNS;
        /** Each round raises a RANK, and no RANK is raised beyond the number of PLACES. */
        private static final int MOST_ROUNDS = (MOST_PLACES + 1) * (MOST_PLACES + 1);

        private final int[] ranks = new int[LETTERS * MOST_COLUMNS];
        private boolean raised = false;
        private boolean ringed = false;

        /** Whether no ring of ways has a NEW one in it; the RANKS stand then. */
        boolean measure(Hall hall) {
            Arrays.fill(ranks, 0);
            raised = true;
            ringed = false;
            for (int round = 0; round < MOST_ROUNDS && raised && !ringed; round++) {
                raised = false;
                for (int r = 0; r < hall.ruleCount && r < MOST_RULES; r++) {
                    if (hall.rules[r].kind == MAKES) {
                        followRule(hall.rules[r]);
                    }
                }
            }
            return !raised && !ringed;
        }

        int rankOf(int table, int column) {
            if (table < 0 || table >= LETTERS || column < 0 || column >= MOST_COLUMNS) {
                return NONE;
            }
            return ranks[table * MOST_COLUMNS + column];
        }

        private void followRule(Rule rule) {
            for (int a = 0; a < rule.ahead.count; a++) {
                for (int c = 0; c < MOST_COLUMNS; c++) {
                    int variable = rule.ahead.placeAt(a, c);
                    if (variable >= VARIABLE && rule.behind.mentions(variable)) {
                        followWays(rule, variable, rankOf(rule.ahead.table[a], c));
                    }
                }
            }
        }

        private void followWays(Rule rule, int variable, int rank) {
            for (int a = 0; a < rule.behind.count; a++) {
                for (int c = 0; c < MOST_COLUMNS; c++) {
                    int place = rule.behind.placeAt(a, c);
                    if (place == variable) {
                        raise(rule.behind.table[a], c, rank);
                    } else if (rule.isNew(place)) {
                        raise(rule.behind.table[a], c, rank + 1);
                    }
                }
            }
        }

        private void raise(int table, int column, int rank) {
            if (rankOf(table, column) == NONE || rankOf(table, column) >= rank) {
                return;
            }
            ranks[table * MOST_COLUMNS + column] = rank;
            raised = true;
            // A row of ways without such a ring is as good without going to a PLACE twice.
            if (rank >= MOST_PLACES) {
                ringed = true;
            }
        }
    }

    /** The ANSWERS in order, each as one number of three parts. */
    private static final class Answers {
        int count = 0;
        private int width = 0;
        private final int[] codes = new int[MOST_ROWS * MOST_ROWS];

        void begin(int newWidth) {
            count = 0;
            width = newWidth;
        }

        void insert(int code) {
            int at = count;
            for (int n = count; n > 0 && codes[n - 1] >= code; n--) {
                at = n - 1;
            }
            boolean known = at < count && codes[at] == code;
            if (known || count >= MOST_ROWS * MOST_ROWS) {
                return;
            }
            System.arraycopy(codes, at, codes, at + 1, count - at);
            codes[at] = code;
            count++;
        }

        int part(int i, int k) {
            if (i < 0 || i >= count || k < 0 || k >= width) {
                return NONE;
            }
            if (k == 0) {
                return codes[i] / (VALUES * VALUES);
            }
            return k == 1 ? codes[i] / VALUES % VALUES : codes[i] % VALUES;
        }
    }

    /** A text as its TOKENS; the last one is always END. */
    private static final class Tokens {
        static final int END = 0;
        static final int WRONG = 1;
        static final int WORD_TABLE = 2;
        static final int WORD_ROW = 3;
        static final int WORD_RULE = 4;
        static final int WORD_FALSE = 5;
        static final int GREAT = 6;
        static final int SMALL = 7;
        static final int NUMBER = 8;
        static final int OPEN = 9;
        static final int CLOSE = 10;
        static final int COMMA = 11;
        static final int SEMICOLON = 12;
        static final int QUESTION = 13;
        static final int EQUALS = 14;
        static final int ARROW = 15;
        static final int MOST = MOST_TAPE + 1;

        private int count = 0;
        private int at = 0;
        private final int[] kinds = new int[MOST];
        private final int[] values = new int[MOST];
        private final int[] places = new int[MOST];

        int kind() {
            return at < count && at < MOST ? kinds[at] : END;
        }

        int value() {
            return at < count && at < MOST ? values[at] : 0;
        }

        int place() {
            return at < count && at < MOST ? places[at] : 0;
        }

        void take() {
            if (at + 1 < count) {
                at++;
            }
        }

        void scan(int[] text, int length) {
            count = 0;
            at = 0;
            int from = 0;
            for (int n = 0; n < length && from < length; n++) {
                int c = text[from];
                if (c == ' ' || c == '\n') {
                    from++;
                } else if (isLetter(c)) {
                    from = scanLetters(text, length, from);
                } else if (isDigit(c)) {
                    from = scanDigits(text, length, from);
                } else if (c == '-' && from + 1 < length && text[from + 1] == '>') {
                    append(ARROW, 0, from);
                    from += 2;
                } else {
                    append(signKind(c), 0, from);
                    from++;
                }
            }
            append(END, 0, length);
        }

        private void append(int kind, int value, int place) {
            if (count < MOST) {
                kinds[count] = kind;
                values[count] = value;
                places[count] = place;
                count++;
            }
        }

        private static boolean isLetter(int c) {
            return c >= 'a' && c <= 'z' || c >= 'A' && c <= 'Z';
        }

        private static boolean isDigit(int c) {
            return c >= '0' && c <= '9';
        }

        private static int signKind(int c) {
            switch (c) {
                case '(': return OPEN;
                case ')': return CLOSE;
                case ',': return COMMA;
                case ';': return SEMICOLON;
                case '?': return QUESTION;
                case '=': return EQUALS;
                default: return WRONG;
            }
        }

        private int scanLetters(int[] text, int length, int from) {
            int to = from;
            while (to < length && isLetter(text[to])) {
                to++;
            }
            int first = text[from];
            if (to - from > 1) {
                append(wordKind(text, from, to), 0, from);
            } else if (first >= 'a') {
                append(SMALL, first - 'a', from);
            } else {
                append(GREAT, first - 'A', from);
            }
            return to;
        }

        private static int wordKind(int[] text, int from, int to) {
            if (spells(text, from, to, "table")) {
                return WORD_TABLE;
            }
            if (spells(text, from, to, "row")) {
                return WORD_ROW;
            }
            if (spells(text, from, to, "rule")) {
                return WORD_RULE;
            }
            return spells(text, from, to, "false") ? WORD_FALSE : WRONG;
        }

        private static boolean spells(int[] text, int from, int to, String word) {
            if (to - from != word.length()) {
                return false;
            }
            for (int i = 0; i < word.length(); i++) {
                if (text[from + i] != word.charAt(i)) {
                    return false;
                }
            }
            return true;
        }

        private int scanDigits(int[] text, int length, int from) {
            int to = from;
            int value = 0;
            while (to < length && isDigit(text[to])) {
                value = value * 10 + text[to] - '0';
                to++;
            }
            boolean good = to - from <= 2 && (to == length || !isLetter(text[to]));
            append(good ? NUMBER : WRONG, good ? value : 0, from);
            return to;
        }
    }

    /** Reads texts TOKEN by TOKEN, and keeps the FAULT of the latest one. */
    private static final class Parser {
        int fault = 0;
        int faultPlace = NONE;
        final int[] asked = new int[MOST_ASKED];
        int askedCount = 0;
        private final Tokens tokens = new Tokens();
        private final int[] cells = new int[MOST_COLUMNS];

        void begin(int[] text, int length) {
            fault = 0;
            faultPlace = NONE;
            tokens.scan(text, length);
        }

        private boolean refuseAt(int what, int place) {
            fault = what;
            faultPlace = place;
            return false;
        }

        private boolean refuse(int what) {
            return refuseAt(what, tokens.place());
        }

        private boolean takeSign(int kind) {
            if (tokens.kind() != kind) {
                return refuse(MISPLACED);
            }
            tokens.take();
            return true;
        }

        private boolean isAtEnd() {
            return tokens.kind() == Tokens.END || refuse(MISPLACED);
        }

        boolean readText(Hall hall) {
            hall.clear();
            boolean good = true;
            for (int n = 0; n < Tokens.MOST && good && tokens.kind() != Tokens.END; n++) {
                switch (tokens.kind()) {
                    case Tokens.WORD_TABLE:
                        good = readTable(hall);
                        break;
                    case Tokens.WORD_ROW:
                        good = readRowLine(hall);
                        break;
                    case Tokens.WORD_RULE:
                        good = hall.ruleCount < MOST_RULES ? readRule(hall.rules[hall.ruleCount], hall)
                                : refuse(TOO_MUCH);
                        hall.ruleCount += good ? 1 : 0;
                        break;
                    default:
                        good = refuse(MISPLACED);
                        break;
                }
            }
            return good;
        }

        boolean readTold(Rule rule, Hall hall) {
            if (tokens.kind() != Tokens.WORD_RULE) {
                return refuse(MISPLACED);
            }
            return readRule(rule, hall) && isAtEnd();
        }

        boolean readQuestion(Atoms atoms, Hall hall) {
            atoms.clear();
            return readAtoms(atoms, hall, MOST_ASKED_ATOMS) && takeSign(Tokens.ARROW) && readAsked(atoms)
                    && takeSign(Tokens.SEMICOLON) && isAtEnd();
        }

        private boolean readTable(Hall hall) {
            tokens.take();
            if (tokens.kind() != Tokens.GREAT) {
                return refuse(MISPLACED);
            }
            int letter = tokens.value();
            if (hall.columnsOf(letter) != 0) {
                return refuse(WRONG_TABLE);
            }
            if (hall.tableCount >= MOST_TABLES) {
                return refuse(TOO_MUCH);
            }
            tokens.take();
            if (tokens.kind() != Tokens.NUMBER) {
                return refuse(MISPLACED);
            }
            if (tokens.value() < 1 || tokens.value() > MOST_COLUMNS) {
                return refuse(WRONG_COLUMNS);
            }
            hall.addTable(letter, tokens.value());
            tokens.take();
            return takeSign(Tokens.SEMICOLON);
        }

        private boolean isKnownTable(Hall hall) {
            if (tokens.kind() != Tokens.GREAT) {
                return refuse(MISPLACED);
            }
            return hall.columnsOf(tokens.value()) != 0 || refuse(WRONG_TABLE);
        }

        private boolean readRowLine(Hall hall) {
            tokens.take();
            if (!isKnownTable(hall)) {
                return false;
            }
            int letter = tokens.value();
            int place = tokens.place();
            tokens.take();
            if (!takeSign(Tokens.OPEN) || !readCells(hall.columnsOf(letter), true)) {
                return false;
            }
            boolean fresh = hall.rows.find(letter, cells[0], cells[1], cells[2]) == NONE;
            if (fresh && hall.rows.add(letter, cells[0], cells[1], cells[2]) == NONE) {
                return refuseAt(TOO_MUCH, place);
            }
            return takeSign(Tokens.SEMICOLON);
        }

        private boolean readRule(Rule rule, Hall hall) {
            rule.clear();
            tokens.take();
            if (!readAtoms(rule.ahead, hall, MOST_ATOMS) || !takeSign(Tokens.ARROW)) {
                return false;
            }
            boolean good;
            switch (tokens.kind()) {
                case Tokens.GREAT:
                    rule.kind = MAKES;
                    good = readAtoms(rule.behind, hall, MOST_ATOMS);
                    break;
                case Tokens.NUMBER:
                case Tokens.SMALL:
                    rule.kind = MELTS;
                    good = readMelt(rule);
                    break;
                case Tokens.WORD_FALSE:
                    rule.kind = FORBIDS;
                    tokens.take();
                    good = true;
                    break;
                default:
                    good = refuse(MISPLACED);
                    break;
            }
            return good && takeSign(Tokens.SEMICOLON);
        }

        private boolean readAtoms(Atoms atoms, Hall hall, int most) {
            for (int n = 0; n <= most; n++) {
                if (!isKnownTable(hall)) {
                    return false;
                }
                if (n >= most) {
                    return refuse(TOO_MUCH);
                }
                int letter = tokens.value();
                tokens.take();
                if (!takeSign(Tokens.OPEN) || !readCells(hall.columnsOf(letter), false)) {
                    return false;
                }
                atoms.add(letter, cells[0], cells[1], cells[2]);
                if (tokens.kind() != Tokens.COMMA) {
                    return true;
                }
                tokens.take();
            }
            return refuse(TOO_MUCH);
        }

        /** Reads the TERMS of a ROW, or the PLACES of an ATOM, and the bracket behind them. */
        private boolean readCells(int columns, boolean ofRow) {
            Arrays.fill(cells, NONE);
            for (int column = 0; column <= columns; column++) {
                if (!isCellStart(ofRow)) {
                    return refuse(MISPLACED);
                }
                if (column >= columns || column >= MOST_COLUMNS) {
                    return refuse(WRONG_COLUMNS);
                }
                if (!readCell(column)) {
                    return false;
                }
                if (tokens.kind() == Tokens.CLOSE) {
                    return column + 1 < columns ? refuse(WRONG_COLUMNS) : takeSign(Tokens.CLOSE);
                }
                if (!takeSign(Tokens.COMMA)) {
                    return false;
                }
            }
            return refuse(WRONG_COLUMNS);
        }

        private boolean isCellStart(boolean ofRow) {
            int kind = tokens.kind();
            return kind == Tokens.NUMBER || kind == (ofRow ? Tokens.QUESTION : Tokens.SMALL);
        }

        private boolean readCell(int column) {
            int base = 0;
            if (tokens.kind() == Tokens.SMALL) {
                base = VARIABLE;
            } else if (tokens.kind() == Tokens.QUESTION) {
                base = NAMELESS;
                tokens.take();
                if (tokens.kind() != Tokens.NUMBER) {
                    return refuse(MISPLACED);
                }
            }
            cells[column] = base + tokens.value();
            tokens.take();
            return true;
        }

        private boolean readMelt(Rule rule) {
            if (!isMeltSide(rule)) {
                return false;
            }
            rule.left = takeMeltSide();
            if (!takeSign(Tokens.EQUALS) || !isMeltSide(rule)) {
                return false;
            }
            rule.right = takeMeltSide();
            return true;
        }

        private boolean isMeltSide(Rule rule) {
            if (tokens.kind() == Tokens.NUMBER) {
                return true;
            }
            if (tokens.kind() != Tokens.SMALL) {
                return refuse(MISPLACED);
            }
            return rule.ahead.mentions(VARIABLE + tokens.value()) || refuse(UNKNOWN_VARIABLE);
        }

        private int takeMeltSide() {
            int side = tokens.kind() == Tokens.SMALL ? VARIABLE + tokens.value() : tokens.value();
            tokens.take();
            return side;
        }

        private boolean readAsked(Atoms atoms) {
            askedCount = 0;
            for (int n = 0; n <= MOST_ASKED; n++) {
                if (tokens.kind() != Tokens.SMALL) {
                    return refuse(MISPLACED);
                }
                if (n >= MOST_ASKED) {
                    return refuse(TOO_MUCH);
                }
                int variable = VARIABLE + tokens.value();
                if (!atoms.mentions(variable)) {
                    return refuse(UNKNOWN_VARIABLE);
                }
                asked[n] = variable;
                askedCount = n + 1;
                tokens.take();
                if (tokens.kind() != Tokens.COMMA) {
                    return true;
                }
                tokens.take();
            }
            return refuse(TOO_MUCH);
        }
    }
}
