import java.util.Arrays;

/** Rows whose divisions come out, and seeds of letters that are exchanged; ../shared/DOC.md says what each call does. */
public final class ExchangeRows {
    private static final int NOBODY = -1;
    private static final int OTHER = -2;
    private static final int STATE = -3;
    private static final int BELOW = -4;
    private static final int ROOM = -6;
    private static final int NONE = -9;
    private static final int MISSING = -11;
    private static final int NO_PLACE = -13;
    private static final int NO_SIZE = -14;
    private static final int FAR = 1000000000;
    private static final long FARTHEST = 4000000000000000000L;

    private static final int MOST_ROWS = 4;
    private static final int MOST_LISTS = 3;
    private static final int MOST_FIGURE = 9;
    private static final int MOST_START = 9;
    private static final int MOST_STEPS = 4;

    private final Row[] rows = new Row[MOST_ROWS];
    private int rowsThere = 0;
    private final Row[] imageRows = new Row[MOST_ROWS];
    private int imageRowsThere = -1;
    private final Seed current = new Seed();
    private final Seed imageSeed = new Seed();
    // For all that is done in thought, so that no call makes a SEED of its own.
    private final Seed trial = new Seed();
    private final Exchanger exchanger = new Exchanger();
    private final Search search = new Search();
    private final Text text = new Text();
    private final Past past = new Past();
    private final Tale[] tales = new Tale[MOST_LISTS];
    private final Fraction kept = new Fraction();
    private final Fraction keptFirst = new Fraction();
    private final int[] refusals = new int[6];

    public ExchangeRows() {
        for (int i = 0; i < MOST_ROWS; i++) {
            rows[i] = new Row();
            imageRows[i] = new Row();
        }
        for (int i = 0; i < MOST_LISTS; i++) {
            tales[i] = new Tale();
        }
    }

    // ---- rows

    public int row(int law, int figure) {
        if (law < 0 || law >= Law.HOW_MANY) {
            return refuse(OTHER);
        }
        if (figure < 0) {
            return refuse(BELOW);
        }
        if (figure > MOST_FIGURE || rowsThere >= MOST_ROWS) {
            return refuse(ROOM);
        }
        rows[rowsThere].found(law, figure);
        rowsThere++;
        return rowsThere - 1;
    }

    public int start(int row, int i, int v) {
        if (!isRow(row)) {
            return refuse(NOBODY);
        }
        if (i < 0 || v < 1) {
            return refuse(BELOW);
        }
        if (i >= rows[row].order() || v > MOST_START) {
            return refuse(ROOM);
        }
        return rows[row].tellStart(i, v);
    }

    public int of(int row, int what) {
        if (!isRow(row)) {
            return refuse(NOBODY);
        }
        Row asked = rows[row];
        switch (what) {
            case 0:
                return asked.law;
            case 1:
                return asked.figure;
            case 2:
                return asked.order();
            case 3:
                return asked.length;
            case 4:
                return asked.why;
            case 5:
                return asked.left;
            case 6:
                return asked.firstBelowOne();
            default:
                return refuse(OTHER);
        }
    }

    public int term(int row, int n) {
        if (!isRow(row)) {
            return refuseFar(NOBODY);
        }
        if (n < 0) {
            return refuseFar(BELOW);
        }
        if (!rows[row].reaches(n)) {
            return refuseFar(STATE);
        }
        return rows[row].termAt(n);
    }

    public long kept(int row, int n, int part) {
        if (!isRow(row)) {
            return refuseFarthest(NOBODY);
        }
        if (part != 0 && part != 1) {
            return refuseFarthest(OTHER);
        }
        if (n < 0) {
            return refuseFarthest(BELOW);
        }
        if (!rows[row].keep(n, kept)) {
            return refuseFarthest(STATE);
        }
        return part == 0 ? kept.above : kept.under;
    }

    public int stays(int row) {
        if (!isRow(row)) {
            return refuse(NOBODY);
        }
        if (!rows[row].keep(0, keptFirst)) {
            return refuse(STATE);
        }
        for (int n = 1; n < Row.MOST && rows[row].keep(n, kept); n++) {
            if (!kept.same(keptFirst)) {
                return n;
            }
        }
        return NONE;
    }

    public int common(int row) {
        return isRow(row) ? rows[row].firstCommon() : refuse(NOBODY);
    }

    public int divided(int row, int d) {
        if (!isRow(row)) {
            return refuse(NOBODY);
        }
        if (d < 2) {
            return refuse(BELOW);
        }
        if (d > 9999) {
            return refuse(ROOM);
        }
        return rows[row].firstMultiple(d);
    }

    public int unlike(int row, int other) {
        if (!isRow(row) || !isRow(other)) {
            return refuse(NOBODY);
        }
        return rows[row].firstUnlike(rows[other]);
    }

    // ---- seeds

    public int seed(int n) {
        if (n < Seed.LEAST) {
            return refuse(BELOW);
        }
        if (n > Seed.MOST) {
            return refuse(ROOM);
        }
        int was = current.size;
        current.clear(n);
        past.forget();
        return was;
    }

    public int table(int i, int j, int v) {
        if (!current.has(i) || !current.has(j) || i == j) {
            return refuseFar(NOBODY);
        }
        if (v < -Seed.MOST_ENTRY) {
            return refuseFar(BELOW);
        }
        if (v > Seed.MOST_ENTRY) {
            return refuseFar(ROOM);
        }
        int was = current.b(i, j);
        current.tellEntry(i, j, v);
        past.forget();
        return was;
    }

    public int begins(int i, int v) {
        if (!current.has(i)) {
            return refuse(NOBODY);
        }
        if (v < 1) {
            return refuse(BELOW);
        }
        if (v > MOST_START) {
            return refuse(ROOM);
        }
        int was = current.first(i);
        current.tellFirst(i, v);
        past.forget();
        return was;
    }

    public int entry(int i, int j) {
        if (!current.has(i) || !current.has(j)) {
            return refuseFar(NOBODY);
        }
        return current.b(i, j);
    }

    public int value(int i, int part) {
        if (!current.has(i)) {
            return refuse(NOBODY);
        }
        if (part != 0 && part != 1) {
            return refuse(OTHER);
        }
        return part == 0 ? current.above(i) : current.under(i);
    }

    public int power(int i, int c) {
        if (!current.has(i) || !current.has(c)) {
            return refuseFar(NOBODY);
        }
        return current.d(i, c);
    }

    public int exchange(int k) {
        if (!current.has(k)) {
            return refuse(NOBODY);
        }
        trial.become(current);
        if (!exchanger.make(trial, k)) {
            return refuse(ROOM);
        }
        past.keep(current);
        current.become(trial);
        return current.above(k);
    }

    public int walk() {
        int misplaced = text.firstMisplaced();
        trial.become(current);
        int impossible = misplaced < 0 ? text.firstImpossible(trial, exchanger) : -1;
        int many = text.statements();
        text.forget();
        if (misplaced >= 0) {
            return -1000 - misplaced;
        }
        if (impossible >= 0) {
            return -2000 - impossible;
        }
        past.keep(current);
        current.become(trial);
        return many;
    }

    public int letter(int c) {
        if (c < 0) {
            return refuse(BELOW);
        }
        if (c > 255 || !text.add(c)) {
            return refuse(ROOM);
        }
        return text.size;
    }

    public int whole(int i) {
        if (!current.has(i)) {
            return refuse(NOBODY);
        }
        return current.isWhole(i) ? 1 : 0;
    }

    public int sinks(int what) {
        if (what != 0 && what != 1) {
            return refuse(OTHER);
        }
        return current.without(what == 0 ? -1 : 1);
    }

    public int ring(int i, int j) {
        if (!current.has(i) || !current.has(j) || i == j) {
            return refuse(NOBODY);
        }
        trial.become(current);
        for (int n = 1; n <= 20; n++) {
            if (!exchanger.make(trial, n % 2 == 1 ? i : j)) {
                return NONE;
            }
            if (trial.sameValues(current)) {
                return n;
            }
        }
        return NONE;
    }

    public int reached(int n, int what) {
        if (n < 0) {
            return refuse(BELOW);
        }
        if (n > MOST_STEPS) {
            return refuse(ROOM);
        }
        if (what < 0 || what > 3) {
            return refuse(OTHER);
        }
        search.explore(current, n, exchanger);
        switch (what) {
            case 0:
                return search.many;
            case 1:
                return search.unlikeValues();
            case 2:
                return search.greatestDegree();
            default:
                return search.notWhole();
        }
    }

    public int fewest(int above, int below, int i) {
        if (above < 0 || below < 1 || i < -1) {
            return refuse(BELOW);
        }
        search.explore(current, MOST_STEPS, exchanger);
        int place = search.firstWith(above, below);
        if (place < 0) {
            return NONE;
        }
        int steps = search.stepsTo(place);
        if (i < 0) {
            return steps;
        }
        return i < steps ? search.letterTo(place, i) : NONE;
    }

    public int lots(int n, int z, int what) {
        if (n < 1) {
            return refuse(BELOW);
        }
        if (n > 30) {
            return refuse(ROOM);
        }
        if (what != 0 && what != 1) {
            return refuse(OTHER);
        }
        int often = drawn(n, z);
        return what == 0 ? often : trial.greatestDegree();
    }

    private int drawn(int n, int z) {
        trial.become(current);
        int often = 0;
        int state = z;
        for (int i = 0; i < n; i++) {
            state = state * 1664525 + 1013904223;
            int lot = (state & 0x7fffffff) / 256;
            if (exchanger.make(trial, trial.size > 0 ? lot % trial.size : 0)) {
                often++;
            }
        }
        return often;
    }

    // ---- lists of numbers

    public int laws(int list, int figure) {
        if (!isList(list)) {
            return refuse(NOBODY);
        }
        if (figure < 0) {
            return refuse(BELOW);
        }
        if (figure > MOST_FIGURE) {
            return refuse(ROOM);
        }
        if (tales[list].isMissing()) {
            return refuse(MISSING);
        }
        if (!tales[list].inRange()) {
            return refuse(STATE);
        }
        int bits = 0;
        for (int law = 0; law < Law.HOW_MANY; law++) {
            if (tales[list].madeBy(law, figure)) {
                bits |= 1 << law;
            }
        }
        return bits;
    }

    public int figures(int list, int law) {
        if (!isList(list)) {
            return refuse(NOBODY);
        }
        if (law < 0 || law >= Law.HOW_MANY) {
            return refuse(OTHER);
        }
        if (tales[list].isMissing()) {
            return refuse(MISSING);
        }
        if (!tales[list].inRange()) {
            return refuse(STATE);
        }
        int bits = 0;
        for (int figure = 0; figure <= MOST_FIGURE; figure++) {
            if (tales[list].madeBy(law, figure)) {
                bits |= 1 << figure;
            }
        }
        return bits;
    }

    public int judge(int list, int row) {
        if (!isList(list) || !isRow(row)) {
            return refuse(NOBODY);
        }
        if (tales[list].isMissing()) {
            return refuse(MISSING);
        }
        return tales[list].firstOtherwise(rows[row]);
    }

    public int list(int list, int n) {
        if (!isList(list)) {
            return refuse(NOBODY);
        }
        if (n > Tale.MOST) {
            return refuse(ROOM);
        }
        if (n < 0) {
            return refuse(NO_SIZE);
        }
        tales[list].clear(n);
        return 1;
    }

    public int put(int list, int i, int v) {
        if (!isList(list)) {
            return refuse(NOBODY);
        }
        if (tales[list].isMissing()) {
            return refuse(MISSING);
        }
        if (!tales[list].has(i)) {
            return refuse(NO_PLACE);
        }
        tales[list].tell(i, v);
        return 1;
    }

    public long look(int list, int i) {
        if (!isList(list)) {
            return refuseFarthest(NOBODY);
        }
        if (tales[list].isMissing()) {
            return refuseFarthest(MISSING);
        }
        if (!tales[list].has(i)) {
            return refuseFarthest(NO_PLACE);
        }
        return tales[list].at(i);
    }

    public int lays(int list, int i, int row) {
        if (!isList(list) || !isRow(row)) {
            return refuse(NOBODY);
        }
        if (tales[list].isMissing()) {
            return refuse(MISSING);
        }
        if (!tales[list].has(i)) {
            return refuse(NO_PLACE);
        }
        return tales[list].takeFrom(rows[row], i);
    }

    // ---- the image

    public int undo() {
        if (!past.takeBack(current)) {
            return refuse(STATE);
        }
        return past.many;
    }

    public int image() {
        for (int i = 0; i < rowsThere && i < MOST_ROWS; i++) {
            imageRows[i].become(rows[i]);
        }
        imageRowsThere = rowsThere;
        imageSeed.become(current);
        return rowsThere;
    }

    public int on() {
        if (imageRowsThere < 0) {
            return refuse(STATE);
        }
        for (int i = 0; i < imageRowsThere && i < MOST_ROWS; i++) {
            rows[i].become(imageRows[i]);
        }
        rowsThere = imageRowsThere;
        current.become(imageSeed);
        past.forget();
        return rowsThere;
    }

    public int count(int what) {
        switch (what) {
            case 0:
                return rowsThere;
            case 1:
                return current.size;
            case 2:
                return text.size;
            case 3:
                return past.many;
            case 4:
                return current.entriesNotZero();
            case 5:
                return current.greatestDegree();
            default:
                return what >= 11 && what - 11 < refusals.length ? refusals[what - 11] : NONE;
        }
    }

    private boolean isRow(int row) {
        return row >= 0 && row < rowsThere && row < MOST_ROWS;
    }

    private boolean isList(int list) {
        return list >= 0 && list < MOST_LISTS;
    }

    /** Counts -1 to -6 alone: the document leaves -11, -13 and -14 uncounted. */
    private int refuse(int why) {
        int at = -1 - why;
        if (at >= 0 && at < refusals.length) {
            refusals[at]++;
        }
        return why;
    }

    private int refuseFar(int why) {
        return FAR - refuse(why);
    }

    private long refuseFarthest(int why) {
        return FARTHEST - refuse(why);
    }

    /** The greatest common divisor; 0 of 0 and 0. */
    private static long commonDivisor(long a, long b) {
        long x = Math.abs(a);
        long y = Math.abs(b);
        // Each two steps halve the numbers, so no pair of longs needs 200.
        for (int step = 0; step < 200 && y != 0; step++) {
            long rest = x % y;
            x = y;
            y = rest;
        }
        return x;
    }

    /** The seven laws, over any numbers told one behind the other. */
    private static final class Law {
        private static final int HOW_MANY = 7;
        private static final int LINE = 0;
        private static final int SQUARE = 1;
        private static final int THREE = 2;
        private static final int FOUR = 3;
        private static final int FIVE = 4;
        private static final int SIX = 5;
        private static final int[] ORDERS = {2, 2, 3, 4, 5, 6, 8};

        static int orderOf(int law) {
            return law >= 0 && law < ORDERS.length ? ORDERS[law] : 0;
        }

        /** What number n, times its divisor, must be. */
        static long product(int law, int figure, int[] a, int n) {
            long f = figure;
            switch (law) {
                case LINE:
                    return f * back(a, n, 1) - back(a, n, 2);
                case SQUARE:
                    return back(a, n, 1) * back(a, n, 1) + f;
                case THREE:
                    return back(a, n, 1) * back(a, n, 2) + f;
                case FOUR:
                    return back(a, n, 1) * back(a, n, 3) + f * back(a, n, 2) * back(a, n, 2);
                case FIVE:
                    return back(a, n, 1) * back(a, n, 4) + f * back(a, n, 2) * back(a, n, 3);
                case SIX:
                    return back(a, n, 1) * back(a, n, 5) + f * back(a, n, 2) * back(a, n, 4)
                        + back(a, n, 3) * back(a, n, 3);
                default:
                    return back(a, n, 1) * back(a, n, 7) + back(a, n, 2) * back(a, n, 6)
                        + f * back(a, n, 3) * back(a, n, 5) + back(a, n, 4) * back(a, n, 4);
            }
        }

        static long divisor(int law, int[] a, int n) {
            return law == LINE ? 1 : back(a, n, orderOf(law));
        }

        private static long back(int[] a, int n, int steps) {
            int at = n - steps;
            return at >= 0 && at < a.length ? a[at] : 0;
        }
    }

    /** A fraction in least terms, used again and again; below the line only numbers above 0 ever stand. */
    private static final class Fraction {
        private static final long GREATEST = 1000000000;

        private long above = 0;
        private long under = 1;

        /** Whether it isn't GREAT: of two such ones no product and no sum leaves the longs. */
        boolean set(long over, long below) {
            long divisor = commonDivisor(over, below);
            if (divisor == 0) {
                above = 0;
                under = 1;
                return true;
            }
            above = over / divisor;
            under = below / divisor;
            return Math.abs(above) <= GREATEST && under <= GREATEST;
        }

        boolean same(Fraction other) {
            return above == other.above && under == other.under;
        }
    }

    /** A ROW with all its terms, made anew when a START is told. */
    private static final class Row {
        private static final int MOST = 60;
        private static final int MOST_ORDER = 8;
        private static final int GREATEST = 100000000;

        private int law = 0;
        private int figure = 0;
        private int length = 0;
        private int why = 0;
        private int left = 0;
        private final int[] starts = new int[MOST_ORDER];
        private final int[] terms = new int[MOST];

        void found(int itsLaw, int itsFigure) {
            law = itsLaw;
            figure = itsFigure;
            Arrays.fill(starts, 1);
            grow();
        }

        void become(Row other) {
            law = other.law;
            figure = other.figure;
            System.arraycopy(other.starts, 0, starts, 0, MOST_ORDER);
            grow();
        }

        int order() {
            return Law.orderOf(law);
        }

        int tellStart(int i, int v) {
            if (i < 0 || i >= MOST_ORDER) {
                return 0;
            }
            int was = starts[i];
            starts[i] = v;
            grow();
            return was;
        }

        private void grow() {
            for (int i = 0; i < order() && i < MOST_ORDER; i++) {
                terms[i] = starts[i];
            }
            length = order();
            why = 0;
            left = 0;
            for (int n = order(); n < MOST && extend(n); n++) {
                length = n + 1;
            }
        }

        /** Makes term n, or says why it can't be. */
        private boolean extend(int n) {
            long product = Law.product(law, figure, terms, n);
            long divisor = Law.divisor(law, terms, n);
            if (divisor == 0 || n < 0 || n >= MOST) {
                return false;
            }
            if (product % divisor != 0) {
                why = 1;
                left = (int) Math.abs(product % divisor);
                return false;
            }
            long made = product / divisor;
            if (Math.abs(made) > GREATEST) {
                why = 2;
                return false;
            }
            terms[n] = (int) made;
            return true;
        }

        boolean reaches(int n) {
            return n >= 0 && n < length && n < MOST;
        }

        int termAt(int n) {
            return reaches(n) ? terms[n] : 0;
        }

        int firstBelowOne() {
            for (int n = 0; n < length; n++) {
                if (termAt(n) < 1) {
                    return n;
                }
            }
            return NONE;
        }

        int firstCommon() {
            for (int n = 0; n + 1 < length; n++) {
                if (commonDivisor(termAt(n), termAt(n + 1)) != 1) {
                    return n;
                }
            }
            return NONE;
        }

        int firstMultiple(int d) {
            for (int n = 0; n < length && d != 0; n++) {
                if (termAt(n) % d == 0) {
                    return n;
                }
            }
            return NONE;
        }

        int firstUnlike(Row other) {
            for (int n = 0; n < MOST; n++) {
                if (reaches(n) != other.reaches(n) || termAt(n) != other.termAt(n)) {
                    return n;
                }
            }
            return NONE;
        }

        /** Puts KEPT at n into a fraction; whether there is one. */
        boolean keep(int n, Fraction into) {
            if (law == Law.LINE && isPlain(n, 2)) {
                long x = termAt(n);
                long y = termAt(n + 1);
                into.set(x * x + y * y - figure * x * y, 1);
                return true;
            }
            if (law == Law.SQUARE && isPlain(n, 3)) {
                into.set((long) termAt(n) + termAt(n + 2), termAt(n + 1));
                return true;
            }
            if (law == Law.FOUR && isPlain(n, 4)) {
                keepOfFour(termAt(n), termAt(n + 1), termAt(n + 2), termAt(n + 3), into);
                return true;
            }
            return false;
        }

        /** All four fractions over w x y z, which, with terms to 9999, stays in the longs. */
        private void keepOfFour(long w, long x, long y, long z, Fraction into) {
            long over = w * w * z * z + x * x * x * z + y * y * y * w + figure * x * x * y * y;
            into.set(over, w * x * y * z);
        }

        private boolean isPlain(int n, int many) {
            if (n < 0 || n > length - many) {
                return false;
            }
            for (int i = n; i < n + many; i++) {
                if (termAt(i) < 1 || termAt(i) > 9999) {
                    return false;
                }
            }
            return true;
        }
    }

    /** A SEED: its letters' VALUES, STARTS, DEGREES and the TABLE. */
    private static final class Seed {
        private static final int LEAST = 2;
        private static final int MOST = 4;
        private static final int MOST_ENTRY = 9;
        // One array holds all, so that a copy is one step and a SEED two objects.
        private static final int ABOVE = 0;
        private static final int UNDER = ABOVE + MOST;
        private static final int TABLE = UNDER + MOST;
        private static final int STARTS = TABLE + MOST * MOST;
        private static final int DEGREES = STARTS + MOST;
        private static final int CELLS = DEGREES + MOST * MOST;

        private int size = LEAST;
        private final int[] cells = new int[CELLS];

        Seed() {
            clear(LEAST);
        }

        /** Whether there can be so many letters; then all is as with a new SEED. */
        boolean clear(int letters) {
            if (letters < LEAST || letters > MOST) {
                return false;
            }
            size = letters;
            Arrays.fill(cells, 0);
            for (int i = 0; i < size; i++) {
                cells[STARTS + i] = 1;
            }
            begin();
            return true;
        }

        private void begin() {
            for (int i = 0; i < size; i++) {
                cells[ABOVE + i] = cells[STARTS + i];
                cells[UNDER + i] = 1;
                for (int c = 0; c < size; c++) {
                    cells[DEGREES + MOST * i + c] = c == i ? -1 : 0;
                }
            }
        }

        void become(Seed other) {
            size = other.size;
            System.arraycopy(other.cells, 0, cells, 0, CELLS);
        }

        boolean has(int i) {
            return i >= 0 && i < size && i < MOST;
        }

        int above(int i) {
            return has(i) ? cells[ABOVE + i] : 0;
        }

        int under(int i) {
            return has(i) ? cells[UNDER + i] : 1;
        }

        int first(int i) {
            return has(i) ? cells[STARTS + i] : 1;
        }

        int b(int i, int j) {
            return i >= 0 && i < MOST && j >= 0 && j < MOST ? cells[TABLE + MOST * i + j] : 0;
        }

        int d(int i, int c) {
            return has(i) && has(c) ? cells[DEGREES + MOST * i + c] : 0;
        }

        private void setB(int i, int j, int v) {
            if (has(i) && has(j)) {
                cells[TABLE + MOST * i + j] = v;
            }
        }

        void setValue(int i, Fraction f) {
            if (has(i)) {
                cells[ABOVE + i] = (int) f.above;
                cells[UNDER + i] = (int) f.under;
            }
        }

        boolean tellEntry(int i, int j, int v) {
            if (!has(i) || !has(j) || i == j || v < -MOST_ENTRY || v > MOST_ENTRY) {
                return false;
            }
            setB(i, j, v);
            setB(j, i, -v);
            begin();
            return true;
        }

        boolean tellFirst(int i, int v) {
            if (!has(i) || v < 1 || v > MOST_START) {
                return false;
            }
            cells[STARTS + i] = v;
            begin();
            return true;
        }

        boolean changePlaces(int i, int j) {
            if (!has(i) || !has(j) || i == j) {
                return false;
            }
            swap(ABOVE + i, ABOVE + j);
            swap(UNDER + i, UNDER + j);
            swap(STARTS + i, STARTS + j);
            changeSquare(TABLE, i, j);
            changeSquare(DEGREES, i, j);
            return true;
        }

        private void changeSquare(int from, int i, int j) {
            for (int c = 0; c < MOST; c++) {
                swap(from + MOST * i + c, from + MOST * j + c);
            }
            for (int r = 0; r < MOST; r++) {
                swap(from + MOST * r + i, from + MOST * r + j);
            }
        }

        private void swap(int one, int other) {
            if (one >= 0 && one < CELLS && other >= 0 && other < CELLS) {
                int held = cells[one];
                cells[one] = cells[other];
                cells[other] = held;
            }
        }

        /** b(i, j) as the EXCHANGE of k leaves it. */
        int exchangedB(int i, int j, int k) {
            if (i == k || j == k) {
                return -b(i, j);
            }
            int twice = Math.abs(b(i, k)) * b(k, j) + b(i, k) * Math.abs(b(k, j));
            return b(i, j) + twice / 2;
        }

        /** Of b(i, j) and b(j, i) one alone need be looked at. */
        boolean staysSmall(int k) {
            for (int i = 0; i < size; i++) {
                for (int j = i + 1; j < size; j++) {
                    if (Math.abs(exchangedB(i, j, k)) > MOST_ENTRY) {
                        return false;
                    }
                }
            }
            return true;
        }

        /** Changes the entries beside k first: they are made of the old ones of k. */
        void exchangeTable(int k) {
            for (int i = 0; i < size; i++) {
                for (int j = 0; j < size; j++) {
                    if (i != k && j != k) {
                        setB(i, j, exchangedB(i, j, k));
                    }
                }
            }
            for (int i = 0; i < size; i++) {
                setB(i, k, -b(i, k));
                setB(k, i, -b(k, i));
            }
        }

        void exchangeDegrees(int k) {
            for (int c = 0; c < size; c++) {
                int up = 0;
                int down = 0;
                for (int i = 0; i < size; i++) {
                    up += Math.max(b(i, k), 0) * d(i, c);
                    down += Math.max(-b(i, k), 0) * d(i, c);
                }
                if (has(k)) {
                    cells[DEGREES + MOST * k + c] = Math.max(up, down) - d(k, c);
                }
            }
        }

        boolean isWhole(int i) {
            long rest = under(i);
            for (int c = 0; c < size; c++) {
                long divisor = commonDivisor(rest, first(c));
                for (int times = 0; times < d(i, c) && divisor > 1; times++) {
                    rest /= divisor;
                    divisor = commonDivisor(rest, first(c));
                }
            }
            return rest == 1;
        }

        /** Bits of the letters k with no b(i, k) of this sign. */
        int without(int sign) {
            int bits = 0;
            for (int k = 0; k < size; k++) {
                boolean none = true;
                for (int i = 0; i < size; i++) {
                    none = none && b(i, k) * sign <= 0;
                }
                if (none) {
                    bits |= 1 << k;
                }
            }
            return bits;
        }

        /** Whether the VALUES, put in order, are the same: so each is there as often. */
        boolean sameValues(Seed other) {
            for (int i = 0; i < size; i++) {
                if (often(above(i), under(i)) != other.often(above(i), under(i))) {
                    return false;
                }
            }
            return true;
        }

        private int often(int above, int under) {
            int often = 0;
            for (int i = 0; i < size; i++) {
                if (above(i) == above && under(i) == under) {
                    often++;
                }
            }
            return often;
        }

        boolean alike(Seed other) {
            for (int at = ABOVE; at < STARTS; at++) {
                if (cells[at] != other.cells[at]) {
                    return false;
                }
            }
            return size == other.size;
        }

        int greatestDegree() {
            int greatest = d(0, 0);
            for (int i = 0; i < size; i++) {
                for (int c = 0; c < size; c++) {
                    greatest = Math.max(greatest, d(i, c));
                }
            }
            return greatest;
        }

        int entriesNotZero() {
            int many = 0;
            for (int i = 0; i < size; i++) {
                for (int j = 0; j < size; j++) {
                    if (b(i, j) != 0) {
                        many++;
                    }
                }
            }
            return many;
        }
    }

    /** Makes EXCHANGES; its two fractions are used again for each. */
    private static final class Exchanger {
        private final Fraction up = new Fraction();
        private final Fraction down = new Fraction();

        /** Whether letter k can be EXCHANGED; then it is, else nothing changes. */
        boolean make(Seed seed, int k) {
            if (!seed.has(k) || !multiply(seed, k, 1, up) || !multiply(seed, k, -1, down)) {
                return false;
            }
            boolean can = up.set(up.above * down.under + down.above * up.under, up.under * down.under)
                && up.set(up.above * seed.under(k), up.under * seed.above(k))
                && seed.staysSmall(k);
            if (!can) {
                return false;
            }
            seed.exchangeDegrees(k);
            seed.exchangeTable(k);
            seed.setValue(k, up);
            return true;
        }

        private boolean multiply(Seed seed, int k, int sign, Fraction into) {
            into.set(1, 1);
            for (int i = 0; i < seed.size; i++) {
                int times = sign * seed.b(i, k);
                for (int t = 0; t < times; t++) {
                    if (!into.set(into.above * seed.above(i), into.under * seed.under(i))) {
                        return false;
                    }
                }
            }
            return true;
        }
    }

    /**
     * All unlike SEEDS some EXCHANGES away, in the order of their first ways:
     * those of fewer EXCHANGES first, then by letters, the least first.
     */
    private static final class Search {
        // The same letter twice leads back, so 1 + 4 + 4 * 3 + 4 * 3 * 3 + 4 * 3 * 3 * 3.
        private static final int MOST = 161;

        private int many = 0;
        private final Seed[] found = new Seed[MOST];
        // The place that each is reached from, by which letter, by how many EXCHANGES.
        private final int[] from = new int[MOST];
        private final int[] by = new int[MOST];
        private final int[] depth = new int[MOST];

        Search() {
            for (int i = 0; i < MOST; i++) {
                found[i] = new Seed();
            }
        }

        void explore(Seed origin, int steps, Exchanger exchanger) {
            found[0].become(origin);
            by[0] = -1;
            depth[0] = 0;
            many = 1;
            for (int place = 0; place < many && place < MOST && depth[place] < steps; place++) {
                for (int k = 0; k < origin.size && many < MOST; k++) {
                    Seed next = found[many];
                    next.become(found[place]);
                    if (k != by[place] && exchanger.make(next, k) && !isKnown(next)) {
                        from[many] = place;
                        by[many] = k;
                        depth[many] = depth[place] + 1;
                        many++;
                    }
                }
            }
        }

        private boolean isKnown(Seed seed) {
            for (int i = 0; i < many && i < MOST; i++) {
                if (found[i].alike(seed)) {
                    return true;
                }
            }
            return false;
        }

        int unlikeValues() {
            int unlike = 0;
            for (int place = 0; place < many && place < MOST; place++) {
                for (int i = 0; i < found[place].size; i++) {
                    if (isFirst(place, i)) {
                        unlike++;
                    }
                }
            }
            return unlike;
        }

        /** Whether the VALUE stands nowhere ahead; an EXCHANGE makes no more than one new one. */
        private boolean isFirst(int place, int letter) {
            if (place < 0 || place >= MOST || by[place] >= 0 && by[place] != letter) {
                return false;
            }
            int above = found[place].above(letter);
            int under = found[place].under(letter);
            for (int i = 0; i < letter; i++) {
                if (found[place].above(i) == above && found[place].under(i) == under) {
                    return false;
                }
            }
            for (int p = 0; p < place; p++) {
                if (found[p].often(above, under) > 0) {
                    return false;
                }
            }
            return true;
        }

        int greatestDegree() {
            int greatest = found[0].greatestDegree();
            for (int place = 1; place < many && place < MOST; place++) {
                greatest = Math.max(greatest, found[place].greatestDegree());
            }
            return greatest;
        }

        int notWhole() {
            int not = 0;
            for (int place = 0; place < many && place < MOST; place++) {
                for (int i = 0; i < found[place].size; i++) {
                    if (!found[place].isWhole(i)) {
                        not++;
                    }
                }
            }
            return not;
        }

        /** The place of the first SEED that has the VALUE; -1 without one. */
        int firstWith(long above, long under) {
            for (int place = 0; place < many && place < MOST; place++) {
                Seed seed = found[place];
                for (int i = 0; i < seed.size; i++) {
                    if (seed.above(i) * under == above * seed.under(i)) {
                        return place;
                    }
                }
            }
            return -1;
        }

        int stepsTo(int place) {
            return place >= 0 && place < many && place < MOST ? depth[place] : 0;
        }

        /** The i-th letter that is EXCHANGED on the way to a place; the way is told from its end. */
        int letterTo(int place, int i) {
            int at = place;
            for (int step = 0; step < MOST_STEPS && i >= 0 && stepsTo(at) > i + 1; step++) {
                at = from[at];
            }
            return i >= 0 && stepsTo(at) == i + 1 ? by[at] : NONE;
        }
    }

    /** The letters that have come, read as a WALK. */
    private static final class Text {
        private static final int MOST = 72;

        private int size = 0;
        private final int[] letters = new int[MOST];

        boolean add(int c) {
            if (size < 0 || size >= MOST) {
                return false;
            }
            letters[size] = c;
            size++;
            return true;
        }

        void forget() {
            size = 0;
        }

        /** The place of the first letter with which no WALK goes on; -1 if it is one. */
        int firstMisplaced() {
            int at = 0;
            for (int i = 0; i <= MOST; i++) {
                int behind = behind(at);
                if (behind < 0) {
                    return -1 - behind;
                }
                if (behind >= size) {
                    return -1;
                }
                at = behind;
            }
            return at;
        }

        /** EXCHANGES and tells all in a SEED; the place of the first STATEMENT that can't be, or -1. */
        int firstImpossible(Seed seed, Exchanger exchanger) {
            int at = 0;
            for (int i = 0; i < MOST && at >= 0 && at < size; i++) {
                if (!done(at, seed, exchanger)) {
                    return at;
                }
                at = behind(at);
            }
            return -1;
        }

        int statements() {
            int many = 0;
            for (int i = 0; i < size && i < MOST; i++) {
                if (letters[i] == ';') {
                    many++;
                }
            }
            return many;
        }

        /** The place behind the STATEMENT that begins at a place; -1 less the place of a misplaced letter. */
        private int behind(int at) {
            int digits = digitsOf(letterAt(at));
            if (digits == 0) {
                return -1 - at;
            }
            int place = at + 1;
            for (int i = 0; i < digits; i++) {
                // Only "b" has a third digit, and it alone may have a sign.
                if (i == 2 && letterAt(place) == '-') {
                    place++;
                }
                if (digitAt(place) < 0) {
                    return -1 - place;
                }
                place++;
            }
            return letterAt(place) == ';' ? place + 1 : -1 - place;
        }

        private int digitsOf(int letter) {
            switch (letter) {
                case 'n':
                case 'm':
                    return 1;
                case 's':
                case 'w':
                    return 2;
                case 'b':
                    return 3;
                default:
                    return 0;
            }
        }

        private boolean done(int at, Seed seed, Exchanger exchanger) {
            int one = digitAt(at + 1);
            int two = digitAt(at + 2);
            switch (letterAt(at)) {
                case 'n':
                    return seed.clear(one);
                case 'm':
                    return exchanger.make(seed, one);
                case 's':
                    return seed.tellFirst(one, two);
                case 'w':
                    return seed.changePlaces(one, two);
                default:
                    return seed.tellEntry(one, two, numberAt(at + 3));
            }
        }

        private int numberAt(int place) {
            return letterAt(place) == '-' ? -digitAt(place + 1) : digitAt(place);
        }

        private int digitAt(int place) {
            int letter = letterAt(place);
            return letter >= '0' && letter <= '9' ? letter - '0' : -1;
        }

        private int letterAt(int place) {
            return place >= 0 && place < size && place < MOST ? letters[place] : -1;
        }
    }

    /** What can be UNDONE: the SEED as it was ahead of each. */
    private static final class Past {
        private static final int MOST = 8;

        private int many = 0;
        private final Seed[] seeds = new Seed[MOST];

        Past() {
            for (int i = 0; i < MOST; i++) {
                seeds[i] = new Seed();
            }
        }

        void keep(Seed seed) {
            if (many >= MOST) {
                dropOldest();
            }
            if (many >= 0 && many < MOST) {
                seeds[many].become(seed);
                many++;
            }
        }

        private void dropOldest() {
            for (int i = 0; i + 1 < MOST; i++) {
                seeds[i].become(seeds[i + 1]);
            }
            many = MOST - 1;
        }

        boolean takeBack(Seed into) {
            if (many < 1 || many > MOST) {
                return false;
            }
            many--;
            into.become(seeds[many]);
            return true;
        }

        void forget() {
            many = 0;
        }
    }

    /** A LIST of ints, missing until it is told how long it is. */
    private static final class Tale {
        private static final int MOST = 40;
        private static final int GREATEST = 10000;

        private int size = -1;
        private final int[] places = new int[MOST];

        boolean isMissing() {
            return size < 0;
        }

        boolean has(int i) {
            return i >= 0 && i < size && i < MOST;
        }

        void clear(int n) {
            size = n;
            Arrays.fill(places, 0);
        }

        void tell(int i, int v) {
            if (has(i)) {
                places[i] = v;
            }
        }

        int at(int i) {
            return has(i) ? places[i] : 0;
        }

        boolean inRange() {
            for (int i = 0; i < size; i++) {
                if (at(i) < -GREATEST || at(i) > GREATEST) {
                    return false;
                }
            }
            return true;
        }

        /** By products, not by divisions: so a rest needs no look of its own. */
        boolean madeBy(int law, int figure) {
            for (int n = Law.orderOf(law); n < size; n++) {
                long divisor = Law.divisor(law, places, n);
                if (divisor == 0 || at(n) * divisor != Law.product(law, figure, places, n)) {
                    return false;
                }
            }
            return true;
        }

        int firstOtherwise(Row row) {
            for (int i = 0; i < size; i++) {
                if (!row.reaches(i) || row.termAt(i) != at(i)) {
                    return i;
                }
            }
            return NONE;
        }

        int takeFrom(Row row, int from) {
            int many = 0;
            for (int i = from; i < size && row.reaches(many); i++) {
                tell(i, row.termAt(many));
                many++;
            }
            return many;
        }
    }
}
