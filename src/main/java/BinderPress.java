/**
 * Terms of names, signs, puts and binders on four shelves; see README.md for what can be done with them.
 *
 * A TERM is held as a row of cells, whole before parts: the cell of PUTS stands ahead of M and then N, the
 * cell of a BINDER ahead of its body. Two TERMS are the same just if their rows are, and every walk over a
 * TERM is a loop over its row, so nothing here calls itself.
 */
public final class BinderPress {
    public static final int NONE = -1, UNKNOWN = -1000000001, OUTSIDE = -1000000002, NOT = -1000000003, FULL = -1000000004;

    private static final int SHELVES = 4;
    private static final int IMAGES = 2;
    private static final int TEXT_MOST = 240;
    private static final int LETTER_MOST = 255;
    private static final int SIZE_MOST = 120;
    private static final int STEPS_MOST = 200;
    private static final int DRIFT_MOST = 40;
    private static final int SEED_MOST = 999999;
    private static final int UNDO_MOST = 10;
    private static final int FIRST_NAME = 97;
    private static final int LAST_NAME = 122;
    private static final int NAMES = 26;

    /** The size above which a TERM that is worked out is TOO BIG. */
    private static final int BIG = 300;

    /** The most signs of a KIND that is WRITTEN. */
    private static final int KIND_MOST = 200;

    /**
     * Taking a NAME out makes a TERM smaller by 3 at most, its BINDER with it, and there are fewer than 120
     * BINDERS: what is above this while they are taken out cannot end at 120 or less.
     */
    private static final int BULK = 512;

    /** A NAME taken out leaves less than twice the cells and two more. */
    private static final int BULK_ROOM = 2 * BULK + 8;

    /** The cell of PUTS; NAMES and SIGNS are their letters, a BINDER is this BINDER and the letter of its NAME. */
    private static final int PUTS = 1;
    private static final int BINDER = 1000;

    private static final int CANNOT_STAND = 1;
    private static final int TOO_LONG = 2;

    private static final int PLAINLY = 0;
    private static final int SHARED = 1;

    private static final int[] SIGNS = {'I', 'K', 'S', 'B', 'C'};

    private final Row text = new Row(TEXT_MOST);
    private final Row[] shelves = newRows(SHELVES);
    private final Row[] images = newRows(IMAGES * SHELVES);
    private final boolean[] kept = new boolean[IMAGES];
    private final Past past = new Past();
    private final Row made = new Row(BULK_ROOM);
    private final Reader reader = new Reader();
    private final Spans spans = new Spans(SIZE_MOST);
    private final Taker taker = new Taker();
    private final Engine engine = new Engine();
    private final Scribe scribe = new Scribe();
    private final Sorter sorter = new Sorter();
    private int faultAt = NONE;

    public BinderPress() {
    }

    // ---- terms

    public int feed(int letter) {
        if (letter < 0 || letter > LETTER_MOST) {
            return OUTSIDE;
        }
        if (text.count() >= TEXT_MOST) {
            return FULL;
        }
        text.add(letter);
        return text.count();
    }

    public int term(int s) {
        if (!isShelf(s)) {
            return UNKNOWN;
        }
        int number = reader.read(text, made);
        text.clear();
        if (number != 0) {
            faultAt = reader.place();
            return -10 - number;
        }
        faultAt = NONE;
        return change(s);
    }

    public int fault() {
        return faultAt;
    }

    public int compile(int s) {
        if (!isShelf(s)) {
            return UNKNOWN;
        }
        if (isEmpty(s)) {
            return NOT;
        }
        taker.press(shelves[s], made);
        return change(s);
    }

    public int takeOut(int s, int name) {
        if (!isShelf(s)) {
            return UNKNOWN;
        }
        if (!isName(name)) {
            return OUTSIDE;
        }
        if (isEmpty(s)) {
            return NOT;
        }
        taker.press(shelves[s], made);
        taker.takeFrom(made, name);
        return change(s);
    }

    public int put(int s, int m, int n) {
        if (!isShelf(s) || !isShelf(m) || !isShelf(n)) {
            return UNKNOWN;
        }
        if (isEmpty(m) || isEmpty(n)) {
            return NOT;
        }
        made.clear();
        made.add(PUTS);
        made.addAll(shelves[m]);
        made.addAll(shelves[n]);
        return change(s);
    }

    public int putIn(int s, int name, int n) {
        if (!isShelf(s) || !isShelf(n)) {
            return UNKNOWN;
        }
        if (!isName(name)) {
            return OUTSIDE;
        }
        if (isEmpty(s) || isEmpty(n) || hasBinders(s) || hasBinders(n)) {
            return NOT;
        }
        makePutIn(shelves[s], name, shelves[n]);
        return change(s);
    }

    public int work(int s, int how, int n) {
        if (!isShelf(s)) {
            return UNKNOWN;
        }
        if (!isHow(how) || n < 0 || n > STEPS_MOST) {
            return OUTSIDE;
        }
        if (isEmpty(s) || hasBinders(s)) {
            return NOT;
        }
        int done = engine.run(shelves[s], how == SHARED, n);
        made.become(engine.result());
        int size = change(s);
        return size == FULL ? FULL : done;
    }

    public int drop(int s) {
        if (!isShelf(s)) {
            return UNKNOWN;
        }
        if (isEmpty(s)) {
            return NOT;
        }
        int size = shelves[s].count();
        made.clear();
        change(s);
        return size;
    }

    public int drift(int s, int n, int seed) {
        if (!isShelf(s)) {
            return UNKNOWN;
        }
        if (n < 1 || n > DRIFT_MOST || seed < 1 || seed > SEED_MOST) {
            return OUTSIDE;
        }
        makeByLots(n, seed);
        return change(s);
    }

    public int undo() {
        if (past.count() == 0) {
            return NOT;
        }
        int s = past.latestShelf();
        if (isShelf(s)) {
            past.giveBack(shelves[s]);
        }
        return past.count();
    }

    // ---- what is told

    public int told(int what) {
        switch (what) {
            case 0:
                return text.count();
            case 1:
                return fullShelves();
            case 2:
                return past.count();
            default:
                return OUTSIDE;
        }
    }

    public int of(int s, int what) {
        if (!isShelf(s)) {
            return UNKNOWN;
        }
        if (what < 0 || what > 11) {
            return OUTSIDE;
        }
        if (isEmpty(s)) {
            return NOT;
        }
        Row term = shelves[s];
        switch (what) {
            case 0:
                return term.count();
            case 1:
                return spans.freeNames(term);
            case 2:
                return binders(term);
            case 8:
                scribe.write(term);
                return scribe.written().count();
            case 9:
                return spans.longestRow(term);
            case 10:
                return sorter.find(term) ? 1 : 0;
            case 11:
                return sorter.write(term) ? countOrNone(sorter.written()) : FULL;
            default:
                return term.howOften(signAt(what - 3));
        }
    }

    public int sign(int s, int i) {
        if (!isShelf(s)) {
            return UNKNOWN;
        }
        if (i < 0) {
            return OUTSIDE;
        }
        if (isEmpty(s)) {
            return NOT;
        }
        scribe.write(shelves[s]);
        return scribe.written().atOr(i, NONE);
    }

    public int kind(int s, int i) {
        if (!isShelf(s)) {
            return UNKNOWN;
        }
        if (i < 0) {
            return OUTSIDE;
        }
        if (isEmpty(s)) {
            return NOT;
        }
        if (!sorter.write(shelves[s])) {
            return FULL;
        }
        return sorter.written().atOr(i, NONE);
    }

    public int steps(int s, int how) {
        if (!isShelf(s)) {
            return UNKNOWN;
        }
        if (!isHow(how)) {
            return OUTSIDE;
        }
        if (isEmpty(s) || hasBinders(s)) {
            return NOT;
        }
        int done = engine.run(shelves[s], how == SHARED, STEPS_MOST);
        if (engine.isTooBig()) {
            return -3;
        }
        return engine.hasStep() ? -2 : done;
    }

    public int same(int s, int other) {
        if (!isShelf(s) || !isShelf(other)) {
            return UNKNOWN;
        }
        if (isEmpty(s) || isEmpty(other)) {
            return NOT;
        }
        return shelves[s].isLike(shelves[other]) ? 1 : 0;
    }

    public int sameKind(int s, int other) {
        if (!isShelf(s) || !isShelf(other)) {
            return UNKNOWN;
        }
        if (isEmpty(s) || isEmpty(other)) {
            return NOT;
        }
        if (!sorter.write(shelves[s])) {
            return FULL;
        }
        made.become(sorter.written());
        if (!sorter.write(shelves[other])) {
            return FULL;
        }
        return made.isLike(sorter.written()) ? 1 : 0;
    }

    // ---- images

    public int keep(int i) {
        if (!isImage(i)) {
            return UNKNOWN;
        }
        for (int s = 0; s < SHELVES; s++) {
            images[i * SHELVES + s].become(shelves[s]);
        }
        kept[i] = true;
        past.forget();
        return 1;
    }

    public int goBack(int i) {
        if (!isImage(i)) {
            return UNKNOWN;
        }
        if (!kept[i]) {
            return NOT;
        }
        for (int s = 0; s < SHELVES; s++) {
            shelves[s].become(images[i * SHELVES + s]);
        }
        past.forget();
        return 1;
    }

    // ---- what the calls share

    /** What was made becomes the TERM of a shelf, if it is not too long; every change that can be undone comes here. */
    private int change(int s) {
        if (!isShelf(s)) {
            return UNKNOWN;
        }
        if (made.count() > SIZE_MOST) {
            return FULL;
        }
        past.remember(s, shelves[s]);
        shelves[s].become(made);
        return made.count();
    }

    private void makePutIn(Row term, int name, Row instead) {
        made.clear();
        for (int p = 0; p < term.count(); p++) {
            if (term.at(p) == name) {
                made.addAll(instead);
            } else {
                made.add(term.at(p));
            }
        }
    }

    private void makeByLots(int n, int seed) {
        long x = nextLot(seed);
        made.clear();
        made.add(signOfLot(x));
        for (int i = 1; i < n; i++) {
            x = nextLot(x);
            boolean signFirst = x % 2 == 1;
            x = nextLot(x);
            made.insert(signFirst ? 0 : made.count(), signOfLot(x));
            made.insert(0, PUTS);
        }
    }

    private int fullShelves() {
        int bits = 0;
        for (int s = 0; s < SHELVES; s++) {
            if (!isEmpty(s)) {
                bits |= 1 << s;
            }
        }
        return bits;
    }

    private boolean isEmpty(int s) {
        return !isShelf(s) || shelves[s].count() == 0;
    }

    private boolean hasBinders(int s) {
        return isShelf(s) && binders(shelves[s]) > 0;
    }

    private static boolean isShelf(int s) {
        return s >= 0 && s < SHELVES;
    }

    private static boolean isImage(int i) {
        return i >= 0 && i < IMAGES;
    }

    private static boolean isHow(int how) {
        return how == PLAINLY || how == SHARED;
    }

    private static boolean isName(int cell) {
        return cell >= FIRST_NAME && cell <= LAST_NAME;
    }

    private static boolean isBinder(int cell) {
        return cell > BINDER;
    }

    private static int nameOf(int binder) {
        return binder - BINDER;
    }

    /** How many a SIGN wants PUT to it; 0: it is no SIGN. */
    private static int wants(int cell) {
        switch (cell) {
            case 'I':
                return 1;
            case 'K':
                return 2;
            case 'S':
            case 'B':
            case 'C':
                return 3;
            default:
                return 0;
        }
    }

    private static int countOrNone(Row row) {
        return row.count() == 0 ? NONE : row.count();
    }

    private static int binders(Row term) {
        int found = 0;
        for (int p = 0; p < term.count(); p++) {
            if (isBinder(term.at(p))) {
                found++;
            }
        }
        return found;
    }

    private static long nextLot(long x) {
        return x * 16807L % 2147483647L;
    }

    private static int signOfLot(long x) {
        return signAt((int) (x % 5));
    }

    private static int signAt(int i) {
        return i >= 0 && i < SIGNS.length ? SIGNS[i] : NONE;
    }

    private static Row[] newRows(int many) {
        Row[] rows = new Row[Math.max(many, 0)];
        for (int i = 0; i < rows.length; i++) {
            rows[i] = new Row(SIZE_MOST);
        }
        return rows;
    }

    /** A row of numbers that looks at every place before it is used: what would be outside is 0 or is left. */
    private static final class Row {
        private final int[] cells;
        private int count;

        Row(int most) {
            cells = new int[Math.max(most, 0)];
        }

        int count() {
            return count;
        }

        void clear() {
            count = 0;
        }

        int at(int i) {
            return i >= 0 && i < count ? cells[i] : 0;
        }

        int atOr(int i, int otherwise) {
            return i >= 0 && i < count ? cells[i] : otherwise;
        }

        int last() {
            return count > 0 ? cells[count - 1] : 0;
        }

        void set(int i, int value) {
            if (i >= 0 && i < count) {
                cells[i] = value;
            }
        }

        void add(int value) {
            if (count < cells.length) {
                cells[count] = value;
                count++;
            }
        }

        int pop() {
            int value = last();
            count = Math.max(count - 1, 0);
            return value;
        }

        void insert(int place, int value) {
            if (place < 0 || place > count || count >= cells.length) {
                return;
            }
            for (int i = count; i > place; i--) {
                cells[i] = cells[i - 1];
            }
            cells[place] = value;
            count++;
        }

        void fill(int many, int value) {
            clear();
            for (int i = 0; i < many; i++) {
                add(value);
            }
        }

        void addAll(Row other) {
            addPart(other, 0, other.count);
        }

        void addPart(Row other, int start, int end) {
            int first = Math.max(start, 0);
            int many = Math.min(Math.min(end, other.count) - first, cells.length - count);
            if (many > 0) {
                System.arraycopy(other.cells, first, cells, count, many);
                count += many;
            }
        }

        void become(Row other) {
            clear();
            addAll(other);
        }

        boolean isLike(Row other) {
            if (count != other.count) {
                return false;
            }
            for (int i = 0; i < count; i++) {
                if (at(i) != other.at(i)) {
                    return false;
                }
            }
            return true;
        }

        int howOften(int value) {
            int found = 0;
            for (int i = 0; i < count; i++) {
                if (cells[i] == value) {
                    found++;
                }
            }
            return found;
        }
    }

    /** What the shelves had ahead of their latest changes, the oldest first. */
    private static final class Past {
        private final Row[] terms = newRows(UNDO_MOST);
        private final int[] changed = new int[UNDO_MOST];
        private int count;

        int count() {
            return count;
        }

        void forget() {
            count = 0;
        }

        void remember(int s, Row term) {
            if (count >= UNDO_MOST) {
                loseOldest();
            }
            if (count >= 0 && count < UNDO_MOST) {
                terms[count].become(term);
                changed[count] = s;
                count++;
            }
        }

        /** The shelf of the latest change, NONE if there is none. */
        int latestShelf() {
            return count > 0 && count <= UNDO_MOST ? changed[count - 1] : NONE;
        }

        void giveBack(Row shelf) {
            if (count > 0 && count <= UNDO_MOST) {
                count--;
                shelf.become(terms[count]);
            }
        }

        /** Its row is used again for what comes next. */
        private void loseOldest() {
            Row oldest = terms[0];
            for (int i = 1; i < UNDO_MOST; i++) {
                terms[i - 1] = terms[i];
                changed[i - 1] = changed[i];
            }
            terms[UNDO_MOST - 1] = oldest;
            count = UNDO_MOST - 1;
        }
    }

    /** Where the parts of a TERM end, and what is summed up from its parts. */
    private static final class Spans {
        private final Row ends;
        private final Row sums;

        Spans(int most) {
            ends = new Row(most);
            sums = new Row(most);
        }

        /** From the right, so that the parts of each are known ahead of it. */
        void measure(Row term) {
            ends.fill(term.count(), 0);
            for (int p = term.count() - 1; p >= 0; p--) {
                int cell = term.at(p);
                if (cell == PUTS) {
                    ends.set(p, end(end(p + 1)));
                } else if (isBinder(cell)) {
                    ends.set(p, end(p + 1));
                } else {
                    ends.set(p, p + 1);
                }
            }
        }

        int end(int p) {
            return ends.at(p);
        }

        int freeNames(Row term) {
            measure(term);
            sums.fill(term.count(), 0);
            for (int p = term.count() - 1; p >= 0; p--) {
                sums.set(p, freeAt(term.at(p), p));
            }
            return sums.at(0);
        }

        private int freeAt(int cell, int p) {
            if (cell == PUTS) {
                return sums.at(p + 1) | sums.at(end(p + 1));
            }
            if (isBinder(cell)) {
                return sums.at(p + 1) & ~(1 << (nameOf(cell) - FIRST_NAME));
            }
            return isName(cell) ? 1 << (cell - FIRST_NAME) : 0;
        }

        int longestRow(Row term) {
            measure(term);
            sums.fill(term.count(), 1);
            for (int p = term.count() - 1; p >= 0; p--) {
                int cell = term.at(p);
                if (cell == PUTS) {
                    sums.set(p, 1 + Math.max(sums.at(p + 1), sums.at(end(p + 1))));
                } else if (isBinder(cell)) {
                    sums.set(p, 1 + sums.at(p + 1));
                }
            }
            return sums.at(0);
        }
    }

    /** Reads a text into the cells of a TERM, letter by letter, up to its first FAULT. */
    private static final class Reader {
        private static final int TERM_NEXT = 0, NAME_NEXT = 1, DOT_NEXT = 2;

        /** For each '(' and each body that is open, the cell that it begins with, and whether it is a '('. */
        private final Row starts = new Row(TEXT_MOST + 1);
        private final Row brackets = new Row(TEXT_MOST + 1);
        private int openBrackets;
        private int next;
        private int place;

        /** The letter of the FAULT, behind a read that had one. */
        int place() {
            return place;
        }

        /** The number of the FAULT, or 0. */
        int read(Row text, Row out) {
            out.clear();
            starts.clear();
            brackets.clear();
            openBrackets = 0;
            next = TERM_NEXT;
            open(0, 0);
            for (int i = 0; i < text.count(); i++) {
                place = i;
                int number = readLetter(text.at(i), out);
                if (number != 0) {
                    return number;
                }
            }
            place = text.count();
            boolean ended = next == TERM_NEXT && openBrackets == 0 && hasSome(out);
            return ended ? 0 : CANNOT_STAND;
        }

        private int readLetter(int letter, Row out) {
            if (letter == ' ') {
                return 0;
            }
            if (next == NAME_NEXT) {
                return readBoundName(letter, out);
            }
            if (next == DOT_NEXT) {
                return readDot(letter, out);
            }
            if (letter == ')') {
                return readClosing(out);
            }
            if (letter == '(') {
                return readOpening(out);
            }
            if (letter == '^') {
                next = NAME_NEXT;
                return addCell(BINDER, out);
            }
            boolean stands = isName(letter) || wants(letter) > 0;
            return stands ? addCell(letter, out) : CANNOT_STAND;
        }

        private int readBoundName(int letter, Row out) {
            if (!isName(letter)) {
                return CANNOT_STAND;
            }
            out.set(out.count() - 1, BINDER + letter);
            next = DOT_NEXT;
            return 0;
        }

        private int readDot(int letter, Row out) {
            if (letter != '.') {
                return CANNOT_STAND;
            }
            open(out.count(), 0);
            next = TERM_NEXT;
            return 0;
        }

        private int readOpening(Row out) {
            if (!joins(0, out)) {
                return TOO_LONG;
            }
            open(out.count(), 1);
            openBrackets++;
            return 0;
        }

        /** The bodies within the brackets end with them. */
        private int readClosing(Row out) {
            if (openBrackets == 0 || !hasSome(out)) {
                return CANNOT_STAND;
            }
            openBrackets--;
            for (int level = starts.count(); level > 0; level--) {
                starts.pop();
                if (brackets.pop() == 1) {
                    return 0;
                }
            }
            return CANNOT_STAND;
        }

        private int addCell(int cell, Row out) {
            if (!joins(1, out)) {
                return TOO_LONG;
            }
            out.add(cell);
            return 0;
        }

        /** If something stands here already, what comes is PUT to it; false: that and more would be too much. */
        private boolean joins(int more, Row out) {
            boolean second = hasSome(out);
            int size = out.count() + more + (second ? 1 : 0);
            if (size > SIZE_MOST) {
                return false;
            }
            if (second) {
                out.insert(starts.last(), PUTS);
            }
            return true;
        }

        private boolean hasSome(Row out) {
            return out.count() > starts.last();
        }

        private void open(int start, int bracket) {
            starts.add(start);
            brackets.add(bracket);
        }
    }

    /** Takes NAMES out of TERMS. */
    private static final class Taker {
        private final Spans spans = new Spans(BULK_ROOM);
        private final Row holds = new Row(BULK_ROOM);
        private final Row open = new Row(BULK_ROOM);
        private final Row fresh = new Row(BULK_ROOM);

        /** Puts into out the TERM with all BINDERS taken out; or what is above BULK, and so would end above 120. */
        void press(Row term, Row out) {
            out.become(term);
            // From the right: the BINDERS within come first, and cells to the left stay where they are.
            for (int p = term.count() - 1; p >= 0; p--) {
                if (isBinder(out.at(p)) && out.count() <= BULK) {
                    takeBinder(out, p);
                }
            }
        }

        /** Takes a NAME out of a TERM without BINDERS, in its own row. */
        void takeFrom(Row term, int name) {
            if (term.count() > BULK) {
                return;
            }
            fresh.clear();
            spans.measure(term);
            takePart(term, 0, name);
            term.become(fresh);
        }

        private void takeBinder(Row term, int p) {
            fresh.clear();
            fresh.addPart(term, 0, p);
            spans.measure(term);
            takePart(term, p + 1, nameOf(term.at(p)));
            fresh.addPart(term, spans.end(p), term.count());
            term.become(fresh);
        }

        /** Open are the parts that are still to come: p, a NAME to be taken out of it; -1 - p, as it is. */
        private void takePart(Row term, int start, int name) {
            markHolders(term, name);
            open.clear();
            open.add(start);
            for (int turn = 0; turn < term.count() && open.count() > 0; turn++) {
                int p = open.pop();
                if (p < 0) {
                    fresh.addPart(term, -1 - p, spans.end(-1 - p));
                } else {
                    takeAt(term, p, name);
                }
            }
        }

        private void takeAt(Row term, int p, int name) {
            if (term.at(p) == name) {
                fresh.add('I');
                return;
            }
            if (holds.at(p) == 0) {
                fresh.add(PUTS);
                fresh.add('K');
                fresh.addPart(term, p, spans.end(p));
                return;
            }
            int m = p + 1;
            int n = spans.end(m);
            boolean inM = holds.at(m) == 1;
            boolean inN = holds.at(n) == 1;
            if (!inM && term.at(n) == name) {
                fresh.addPart(term, m, n);
                return;
            }
            fresh.add(PUTS);
            fresh.add(PUTS);
            fresh.add(inM && inN ? 'S' : inM ? 'C' : 'B');
            open.add(inN ? n : -1 - n);
            open.add(inM ? m : -1 - m);
        }

        private void markHolders(Row term, int name) {
            holds.fill(term.count(), 0);
            for (int p = term.count() - 1; p >= 0; p--) {
                int cell = term.at(p);
                if (cell == PUTS) {
                    holds.set(p, holds.at(p + 1) | holds.at(spans.end(p + 1)));
                } else if (cell == name) {
                    holds.set(p, 1);
                }
            }
        }
    }

    /** Works TERMS out. */
    private static final class Engine {
        /** The TERM as it is now, written out; above BIG only one cell more is kept, which tells TOO BIG. */
        private final Row flat = new Row(BIG + 1);
        private final Row next = new Row(BIG + 1);
        private final Things things = new Things();

        /** How many STEPS were done. */
        int run(Row term, boolean shared, int most) {
            flat.become(term);
            if (shared) {
                things.load(term);
            }
            for (int done = 0; done < most; done++) {
                int place = findStep();
                if (place == NONE || isTooBig()) {
                    return done;
                }
                if (shared) {
                    things.takeStep(place, flat);
                } else {
                    takeStep(place);
                }
            }
            return most;
        }

        Row result() {
            return flat;
        }

        boolean isTooBig() {
            return flat.count() > BIG;
        }

        boolean hasStep() {
            return findStep() != NONE;
        }

        /**
         * The place of the SIGN that takes what is PUT to it. What begins a TERM stands behind all its PUTS, and
         * what is PUT to it comes behind that from the left: the first one found is the outermost, there leftmost.
         */
        private int findStep() {
            int puts = 0;
            for (int i = 0; i < flat.count(); i++) {
                int cell = flat.at(i);
                if (cell == PUTS) {
                    puts++;
                } else if (wants(cell) > 0 && puts >= wants(cell)) {
                    return i;
                } else {
                    puts = 0;
                }
            }
            return NONE;
        }

        /** The PUTS that are taken stand just ahead of the SIGN, what they put to it just behind. */
        private void takeStep(int place) {
            int sign = flat.at(place);
            int x = place + 1;
            int y = endOf(x);
            int z = wants(sign) > 1 ? endOf(y) : y;
            int rest = wants(sign) > 2 ? endOf(z) : z;
            next.clear();
            next.addPart(flat, 0, place - wants(sign));
            switch (sign) {
                case 'S':
                    next.add(PUTS);
                    next.add(PUTS);
                    next.addPart(flat, x, y);
                    next.addPart(flat, z, rest);
                    next.add(PUTS);
                    next.addPart(flat, y, rest);
                    break;
                case 'B':
                    next.add(PUTS);
                    next.addPart(flat, x, y);
                    next.add(PUTS);
                    next.addPart(flat, y, rest);
                    break;
                case 'C':
                    next.add(PUTS);
                    next.add(PUTS);
                    next.addPart(flat, x, y);
                    next.addPart(flat, z, rest);
                    next.addPart(flat, y, z);
                    break;
                default:
                    next.addPart(flat, x, y);
                    break;
            }
            next.addPart(flat, rest, flat.count());
            flat.become(next);
        }

        private int endOf(int start) {
            int missing = 1;
            for (int p = start; p < flat.count(); p++) {
                missing += flat.at(p) == PUTS ? 1 : -1;
                if (missing == 0) {
                    return p + 1;
                }
            }
            return flat.count();
        }
    }

    /** A TERM as things, of which one may stand in several places, so that a STEP within is done in all of them. */
    private static final class Things {
        /** The cell of a thing whose place another one has taken. */
        private static final int LINK = 2;

        /** Each of 200 STEPS makes two more at most. */
        private static final int MOST = SIZE_MOST + 2 * STEPS_MOST;

        private final Row cell = new Row(MOST);
        private final Row left = new Row(MOST);
        private final Row right = new Row(MOST);

        /** The things as they come when all is written out. */
        private final Row order = new Row(BIG + 1);
        private final Row open = new Row(BIG + 8);
        private final Spans spans = new Spans(SIZE_MOST);

        void load(Row term) {
            spans.measure(term);
            cell.clear();
            left.clear();
            right.clear();
            order.clear();
            for (int p = 0; p < term.count(); p++) {
                add(term.at(p), p + 1, spans.end(p + 1));
                order.add(p);
            }
        }

        /** Does the STEP of the SIGN at a place of what is written out, and writes it out again. */
        void takeStep(int place, Row out) {
            int sign = cell.at(order.at(place));
            int whole = order.at(place - wants(sign));
            int x = right.at(order.at(place - 1));
            int y = right.at(order.at(place - 2));
            int z = right.at(order.at(place - 3));
            switch (sign) {
                case 'S':
                    replace(whole, add(PUTS, x, z), add(PUTS, y, z));
                    break;
                case 'B':
                    replace(whole, x, add(PUTS, y, z));
                    break;
                case 'C':
                    replace(whole, add(PUTS, x, z), y);
                    break;
                default:
                    cell.set(whole, LINK);
                    left.set(whole, x);
                    break;
            }
            writeOut(out);
        }

        private int add(int what, int m, int n) {
            cell.add(what);
            left.add(m);
            right.add(n);
            return cell.count() - 1;
        }

        private void replace(int whole, int m, int n) {
            left.set(whole, m);
            right.set(whole, n);
        }

        private void writeOut(Row out) {
            out.clear();
            order.clear();
            open.clear();
            open.add(0);
            for (int turn = 0; turn <= BIG && open.count() > 0; turn++) {
                int thing = follow(open.pop());
                int what = cell.at(thing);
                order.add(thing);
                out.add(what);
                if (what == PUTS) {
                    open.add(right.at(thing));
                    open.add(left.at(thing));
                }
            }
        }

        /** Each LINK stands for one STEP that was done, so there are no more of them in a row; that is cut short. */
        private int follow(int thing) {
            int found = thing;
            for (int i = 0; i < STEPS_MOST && cell.at(found) == LINK; i++) {
                found = left.at(found);
            }
            if (found != thing) {
                left.set(thing, found);
            }
            return found;
        }
    }

    /** Writes TERMS. */
    private static final class Scribe {
        /** PUTS have up to four brackets, but then two parts; no TERM of size 120 has more signs than this. */
        private static final int SIGNS_MOST = 3 * SIZE_MOST + 8;

        private final Spans spans = new Spans(SIZE_MOST);
        private final Row written = new Row(SIGNS_MOST);

        /** What is still to be written, the first on top: a part of the TERM, or less than 0 a sign. */
        private final Row open = new Row(SIGNS_MOST + SIZE_MOST);

        Row written() {
            return written;
        }

        void write(Row term) {
            spans.measure(term);
            written.clear();
            open.clear();
            open.add(0);
            for (int turn = 0; turn < SIGNS_MOST + SIZE_MOST && open.count() > 0; turn++) {
                int p = open.pop();
                if (p < 0) {
                    written.add(-p);
                } else {
                    writeAt(term, p);
                }
            }
        }

        private void writeAt(Row term, int p) {
            int cell = term.at(p);
            if (cell == PUTS) {
                int n = spans.end(p + 1);
                openPart(n, term.at(n) == PUTS || isBinder(term.at(n)));
                openPart(p + 1, isBinder(term.at(p + 1)));
            } else if (isBinder(cell)) {
                written.add('^');
                written.add(nameOf(cell));
                written.add('.');
                open.add(p + 1);
            } else {
                written.add(cell);
            }
        }

        private void openPart(int p, boolean inBrackets) {
            if (inBrackets) {
                open.add(-')');
            }
            open.add(p);
            if (inBrackets) {
                open.add(-'(');
            }
        }
    }

    /**
     * Finds and writes MOST GENERAL KINDS. All that must be the same is made one first, without a look at what
     * stands within what, so that this always ends; whether a KIND has itself within it is looked at in the end.
     */
    private static final class Sorter {
        /** Nine at most for each of 60 SIGNS and two for each of 59 PUTS and a BINDER: no TERM has more than 660. */
        private static final int KINDS = 6 * SIZE_MOST;
        private static final int NEW = 0, ENTERED = 1, LEFT = 2;

        /** KIND k is from.at(k) > to.at(k), or unknown if those are NONE; it is one with the KIND one.at(k). */
        private final Row from = new Row(KINDS);
        private final Row to = new Row(KINDS);
        private final Row one = new Row(KINDS);

        /** For each cell its KIND, for a BINDER first that of its NAME. */
        private final Row cellKinds = new Row(SIZE_MOST);
        private final Row freeKinds = new Row(NAMES);
        private final Row open = new Row(2 * KINDS + 8);
        private final Row marks = new Row(KINDS);
        private final Row written = new Row(KIND_MOST + 1);
        private final Spans spans = new Spans(SIZE_MOST);
        private int letters;

        /** The signs of the KIND, none if there is no KIND. */
        Row written() {
            return written;
        }

        /** Whether a TERM has a KIND; that is the KIND of its first cell then. */
        boolean find(Row term) {
            spans.measure(term);
            from.clear();
            to.clear();
            one.clear();
            giveNamesKinds(term);
            for (int p = term.count() - 1; p >= 0; p--) {
                giveKind(term.at(p), p);
            }
            return hasNoneWithinItself();
        }

        /** False: its KIND is too long to be written. */
        boolean write(Row term) {
            written.clear();
            if (!find(term)) {
                return true;
            }
            letters = 0;
            marks.fill(one.count(), 0);
            open.clear();
            open.add(cellKinds.at(0));
            for (int turn = 0; turn < 4 * KIND_MOST && open.count() > 0; turn++) {
                int k = open.pop();
                if (k < 0) {
                    written.add(-k);
                } else {
                    writeAt(meant(k));
                }
                if (written.count() > KIND_MOST || letters > NAMES) {
                    return false;
                }
            }
            return true;
        }

        private void writeAt(int k) {
            if (isUnknown(k)) {
                written.add(letterOf(k));
                return;
            }
            boolean inBrackets = !isUnknown(meant(from.at(k)));
            open.add(to.at(k));
            open.add(-'>');
            if (inBrackets) {
                open.add(-')');
            }
            open.add(from.at(k));
            if (inBrackets) {
                open.add(-'(');
            }
        }

        private int letterOf(int k) {
            if (marks.at(k) == 0) {
                marks.set(k, FIRST_NAME + letters);
                letters++;
            }
            return marks.at(k);
        }

        private void giveNamesKinds(Row term) {
            cellKinds.clear();
            freeKinds.fill(NAMES, NONE);
            for (int p = 0; p < term.count(); p++) {
                int cell = term.at(p);
                if (isBinder(cell)) {
                    cellKinds.add(unknown());
                } else {
                    cellKinds.add(isName(cell) ? nameKind(term, p) : NONE);
                }
            }
        }

        private int nameKind(Row term, int place) {
            int name = term.at(place);
            for (int p = place - 1; p >= 0; p--) {
                if (term.at(p) == BINDER + name && spans.end(p) > place) {
                    return cellKinds.at(p);
                }
            }
            int i = name - FIRST_NAME;
            if (freeKinds.at(i) == NONE) {
                freeKinds.set(i, unknown());
            }
            return freeKinds.at(i);
        }

        /** The parts of a cell have their KINDS ahead of it. */
        private void giveKind(int cell, int p) {
            if (cell == PUTS) {
                int result = unknown();
                int wanted = arrow(cellKinds.at(spans.end(p + 1)), result);
                makeOne(cellKinds.at(p + 1), wanted);
                cellKinds.set(p, result);
            } else if (isBinder(cell)) {
                cellKinds.set(p, arrow(cellKinds.at(p), cellKinds.at(p + 1)));
            } else if (wants(cell) > 0) {
                cellKinds.set(p, signKind(cell));
            }
        }

        private int signKind(int cell) {
            int a = unknown();
            if (cell == 'I') {
                return arrow(a, a);
            }
            int b = unknown();
            if (cell == 'K') {
                return arrow(a, arrow(b, a));
            }
            int c = unknown();
            int last = arrow(a, c);
            if (cell == 'S') {
                return arrow(arrow(a, arrow(b, c)), arrow(arrow(a, b), last));
            }
            if (cell == 'B') {
                return arrow(arrow(b, c), arrow(arrow(a, b), last));
            }
            return arrow(arrow(a, arrow(b, c)), arrow(b, last));
        }

        private int unknown() {
            return arrow(NONE, NONE);
        }

        private int arrow(int k, int l) {
            from.add(k);
            to.add(l);
            one.add(one.count());
            return one.count() - 1;
        }

        private boolean isUnknown(int k) {
            return from.at(k) == NONE;
        }

        /** The KIND that stands for all that are one with k. */
        private int meant(int k) {
            int found = k;
            for (int i = 0; i < KINDS && one.at(found) != found; i++) {
                // What was one step ahead is two ahead now, so that the way gets shorter each time.
                one.set(found, one.at(one.at(found)));
                found = one.at(found);
            }
            return found;
        }

        /** Each turn that opens more makes two KINDS one, so there are no more than twice as many turns. */
        private void makeOne(int k, int l) {
            open.clear();
            open.add(k);
            open.add(l);
            for (int turn = 0; turn < 2 * KINDS + 2 && open.count() > 1; turn++) {
                int a = meant(open.pop());
                int b = meant(open.pop());
                if (a == b) {
                    continue;
                }
                if (isUnknown(a)) {
                    one.set(a, b);
                    continue;
                }
                one.set(b, a);
                if (!isUnknown(b)) {
                    open.add(from.at(a));
                    open.add(from.at(b));
                    open.add(to.at(a));
                    open.add(to.at(b));
                }
            }
        }

        private boolean hasNoneWithinItself() {
            marks.fill(one.count(), NEW);
            for (int k = 0; k < one.count(); k++) {
                if (marks.at(meant(k)) == NEW && !isSoundFrom(meant(k))) {
                    return false;
                }
            }
            return true;
        }

        /** What is ENTERED and not LEFT is all around what is looked at: to meet it again is to be within itself. */
        private boolean isSoundFrom(int start) {
            open.clear();
            open.add(start);
            for (int turn = 0; turn < 4 * KINDS && open.count() > 0; turn++) {
                int k = open.last();
                if (marks.at(k) != NEW) {
                    marks.set(k, LEFT);
                    open.pop();
                } else {
                    marks.set(k, ENTERED);
                    if (!isUnknown(k) && !enters(meant(from.at(k)), meant(to.at(k)))) {
                        return false;
                    }
                }
            }
            return true;
        }

        private boolean enters(int k, int l) {
            if (marks.at(k) == ENTERED || marks.at(l) == ENTERED) {
                return false;
            }
            open.add(k);
            open.add(l);
            return true;
        }
    }
}
