/**
 * Proofs as lines: given clauses, learned ones that follow by units from the lines ahead, two cases
 * joined, answers; checked, shortened, with things exchanged, as a text and read back.
 */
public final class ProofLines {
    private static final int MOST_LINES = 80;
    private static final int MOST_THINGS = 64;
    private static final int MOST_LITERALS = 2 * MOST_THINGS;
    private static final int MOST_UNITS = 4000;

    private static final int GIVEN = 0;
    private static final int LEARNED = 1;
    private static final int JOINED = 2;
    private static final int ANSWER = 3;

    private static final int NONE = -1;

    private static final int LINE_END = 10;
    private static final int BLANK = 32;
    private static final int MINUS = 45;
    private static final int ZERO = 48;
    private static final int NINE = 57;

    private final int things;
    private final Line collected;
    private final Reader reader;
    private Proof proof;
    // A text is read into the spare proof, so that one that is refused leaves the lines alone.
    private Proof spare;

    public ProofLines(int things) {
        this.things = Math.max(1, Math.min(MOST_THINGS, things));
        this.collected = new Line();
        this.reader = new Reader(this.things);
        this.proof = new Proof(this.things);
        this.spare = new Proof(this.things);
    }

    public int given() {
        return proof.open(GIVEN) == null ? NONE : proof.count() - 1;
    }

    public boolean literal(int line, int thing, boolean truth) {
        Line row = proof.lastOf(line, GIVEN);
        return row != null && isThing(thing) && row.add(codeOf(thing, truth));
    }

    public boolean collect(int thing, boolean truth) {
        return isThing(thing) && collected.add(codeOf(thing, truth));
    }

    public int learn() {
        Line row = proof.open(LEARNED);
        if (row == null) {
            return NONE;
        }
        row.addAllBut(collected, NONE);
        collected.begin(LEARNED);
        return proof.count() - 1;
    }

    public int split(int thing) {
        Line ahead = proof.at(proof.count() - 2);
        Line other = proof.at(proof.count() - 1);
        if (ahead == null || other == null || !isThing(thing) || !areCases(ahead, other, thing)) {
            return NONE;
        }
        Line row = proof.open(JOINED);
        if (row == null) {
            return NONE;
        }
        row.addAllBut(ahead, thing);
        row.addAllBut(other, thing);
        return proof.count() - 1;
    }

    public int answer() {
        return proof.open(ANSWER) == null ? NONE : proof.count() - 1;
    }

    public boolean value(int answer, int thing, boolean truth) {
        Line row = proof.lastOf(answer, ANSWER);
        return row != null && isThing(thing) && row.add(codeOf(thing, truth));
    }

    public int check() {
        for (int line = 0; line < proof.count(); line++) {
            if (!proof.isRight(line, NONE)) {
                return 1 + line;
            }
        }
        return 0;
    }

    public int shorten() {
        proof.dropLines();
        proof.dropLiterals();
        return proof.count();
    }

    public int turn(int from, int to) {
        if (!isThing(from) || !isThing(to)) {
            return NONE;
        }
        return proof.exchange(from, to) + collected.exchange(from, to);
    }

    public int lines() {
        return proof.count();
    }

    public int kind(int line) {
        Line row = proof.at(line);
        return row == null ? NONE : row.sort();
    }

    public int member(int line, int i) {
        Line row = proof.at(line);
        return row == null ? NONE : row.codeAt(i);
    }

    public int text(int i) {
        return i < 0 ? NONE : proof.byteAt(i);
    }

    public boolean unit(int u) {
        return reader.take(u);
    }

    public int read() {
        boolean good = reader.fill(spare);
        int place = reader.place();
        reader.forget();
        if (!good) {
            return -1 - place;
        }
        Proof old = proof;
        proof = spare;
        spare = old;
        return proof.count();
    }

    private boolean isThing(int thing) {
        return thing >= 0 && thing < things;
    }

    private static boolean areCases(Line ahead, Line other, int thing) {
        int yes = codeOf(thing, true);
        int no = codeOf(thing, false);
        return ahead.isClause() && other.isClause()
                && (ahead.has(yes) && other.has(no) || ahead.has(no) && other.has(yes));
    }

    /** A literal as member() tells it: 2 times its thing, and 1 for true. */
    private static int codeOf(int thing, boolean truth) {
        return 2 * thing + (truth ? 1 : 0);
    }

    private static long trueBit(int code) {
        return (code & 1) == 1 ? 1L << (code >> 1) : 0L;
    }

    private static long falseBit(int code) {
        return (code & 1) == 0 ? 1L << (code >> 1) : 0L;
    }

    /** One line: its literals in their order, and as two sets of things, for the steps by units. */
    private static final class Line {
        // The numbers of these things and of those above them have two digits.
        private static final long TWO_DIGITS = -1L << 9;

        private final int[] codes;
        private int size;
        private int sort;
        private long trues;
        private long falses;

        Line() {
            this.codes = new int[MOST_LITERALS];
        }

        void begin(int newSort) {
            sort = newSort;
            size = 0;
            trues = 0L;
            falses = 0L;
        }

        int sort() {
            return sort;
        }

        int size() {
            return size;
        }

        long trues() {
            return trues;
        }

        long falses() {
            return falses;
        }

        boolean isClause() {
            return sort != ANSWER;
        }

        boolean isDerived() {
            return sort == LEARNED || sort == JOINED;
        }

        boolean has(int code) {
            return (trues & trueBit(code) | falses & falseBit(code)) != 0L;
        }

        /** An ANSWER takes a thing once, whichever way it is told; a clause takes both ways. */
        boolean takes(int code) {
            return !has(code) && (isClause() || !has(code ^ 1));
        }

        boolean add(int code) {
            if (code < 0 || code >= MOST_LITERALS || size >= codes.length || !takes(code)) {
                return false;
            }
            codes[size] = code;
            size++;
            mark(code);
            return true;
        }

        /** The other line's literals that are not here yet, without those of a thing. */
        void addAllBut(Line other, int thing) {
            for (int i = 0; i < other.size(); i++) {
                int code = other.codeAt(i);
                if (code >> 1 != thing) {
                    add(code);
                }
            }
        }

        void drop(int i) {
            int code = codeAt(i);
            if (code == NONE) {
                return;
            }
            for (int k = i; k + 1 < size; k++) {
                codes[k] = codes[k + 1];
            }
            size--;
            trues &= ~trueBit(code);
            falses &= ~falseBit(code);
        }

        int codeAt(int i) {
            return i >= 0 && i < size && i < codes.length ? codes[i] : NONE;
        }

        int exchange(int from, int to) {
            int others = 0;
            trues = 0L;
            falses = 0L;
            for (int i = 0; i < size; i++) {
                int old = codes[i];
                int thing = old >> 1;
                int turned = thing == from ? to : thing == to ? from : thing;
                codes[i] = 2 * turned + (old & 1);
                others += codes[i] == old ? 0 : 1;
                mark(codes[i]);
            }
            return others;
        }

        int textLength() {
            return 2 + 2 * Long.bitCount(trues) + 3 * Long.bitCount(falses)
                    + Long.bitCount(trues & TWO_DIGITS) + Long.bitCount(falses & TWO_DIGITS);
        }

        int byteAt(int i) {
            if (i == 0) {
                return letterOf(sort);
            }
            int rest = i - 1;
            for (int k = 0; k < size; k++) {
                int width = widthOf(codes[k]);
                if (rest < width) {
                    return byteOf(codes[k], rest, width);
                }
                rest -= width;
            }
            return LINE_END;
        }

        private void mark(int code) {
            trues |= trueBit(code);
            falses |= falseBit(code);
        }

        private static int widthOf(int code) {
            return 2 + (falseBit(code) != 0L ? 1 : 0) + (numberOf(code) >= 10 ? 1 : 0);
        }

        private static int numberOf(int code) {
            return (code >> 1) + 1;
        }

        private static int byteOf(int code, int i, int width) {
            if (i == 0) {
                return BLANK;
            }
            if (i == width - 1) {
                return ZERO + numberOf(code) % 10;
            }
            return i == 1 && falseBit(code) != 0L ? MINUS : ZERO + numberOf(code) / 10;
        }

        static int letterOf(int sort) {
            return sort == GIVEN ? 'g' : sort == LEARNED ? 'l' : sort == JOINED ? 'j' : 'a';
        }
    }

    /** The lines of a proof. Its rows are made once; those from count on wait to be used. */
    private static final class Proof {
        private final int things;
        private final Line[] rows;
        private final boolean[] right;
        private int count;

        Proof(int things) {
            this.things = things;
            this.rows = new Line[MOST_LINES];
            this.right = new boolean[MOST_LINES];
            for (int i = 0; i < MOST_LINES; i++) {
                rows[i] = new Line();
            }
        }

        int count() {
            return count;
        }

        void clear() {
            count = 0;
        }

        Line at(int line) {
            return line >= 0 && line < count && line < rows.length ? rows[line] : null;
        }

        /** The line, when it is the last one and of that KIND; otherwise null. */
        Line lastOf(int line, int sort) {
            Line row = line == count - 1 ? at(line) : null;
            return row != null && row.sort() == sort ? row : null;
        }

        /** A new last line without literals; null when there are 80. */
        Line open(int sort) {
            if (count < 0 || count >= rows.length) {
                return null;
            }
            Line row = rows[count];
            row.begin(sort);
            count++;
            return row;
        }

        /** Whether a line is RIGHT when the line 'without' is not there (NONE: all are). */
        boolean isRight(int line, int without) {
            Line row = at(line);
            if (row == null) {
                return false;
            }
            if (row.isDerived()) {
                return clashes(row.trues(), row.falses(), line, without);
            }
            return row.sort() == GIVEN || isFullAnswer(row) && meetsGivens(row, line);
        }

        void dropLines() {
            // No line turns RIGHT when one goes, and none that is RIGHT ceases to be: asked once.
            for (int i = 0; i < count; i++) {
                right[i] = isRight(i, NONE);
            }
            for (int i = count - 2; i >= 0; i--) {
                if (rows[i].sort() != GIVEN && isSpare(i)) {
                    dropLine(i);
                }
            }
        }

        void dropLiterals() {
            for (int i = 0; i < count; i++) {
                if (rows[i].isDerived() && isRight(i, NONE)) {
                    dropLiteralsOf(rows[i], i);
                }
            }
        }

        int exchange(int from, int to) {
            int others = 0;
            for (int i = 0; i < count; i++) {
                others += rows[i].exchange(from, to);
            }
            return others;
        }

        int byteAt(int i) {
            int rest = i;
            for (int line = 0; line < count; line++) {
                int length = rows[line].textLength();
                if (rest < length) {
                    return rows[line].byteAt(rest);
                }
                rest -= length;
            }
            return NONE;
        }

        private boolean isFullAnswer(Line row) {
            return row.size() == things && Long.bitCount(row.trues() | row.falses()) == things;
        }

        private boolean meetsGivens(Line row, int ahead) {
            for (int i = 0; i < ahead; i++) {
                Line clause = rows[i];
                long met = clause.trues() & row.trues() | clause.falses() & row.falses();
                if (clause.sort() == GIVEN && met == 0L) {
                    return false;
                }
            }
            return true;
        }

        /**
         * Whether the opposites of these literals lead to a CLASH by units, from the clauses of the
         * lines ahead of a line, less one. Each round but the last settles a thing, which bounds them.
         */
        private boolean clashes(long trues, long falses, int ahead, int without) {
            long holdTrue = falses;
            long holdFalse = trues;
            boolean more = true;
            if ((holdTrue & holdFalse) != 0L) {
                return true;
            }
            for (int round = 0; round <= MOST_THINGS && more; round++) {
                more = false;
                for (int i = 0; i < ahead; i++) {
                    Line clause = rows[i];
                    if (i == without || !clause.isClause()) {
                        continue;
                    }
                    long openTrue = clause.trues() & ~holdFalse;
                    long openFalse = clause.falses() & ~holdTrue;
                    int open = Long.bitCount(openTrue) + Long.bitCount(openFalse);
                    if (open == 0) {
                        return true;
                    }
                    if (open == 1 && (openTrue & holdTrue | openFalse & holdFalse) == 0L) {
                        holdTrue |= openTrue;
                        holdFalse |= openFalse;
                        more = true;
                    }
                }
            }
            return false;
        }

        private boolean isSpare(int line) {
            for (int i = line + 1; i < count; i++) {
                if (right[i] && !isRight(i, line)) {
                    return false;
                }
            }
            return true;
        }

        private void dropLine(int line) {
            Line gone = rows[line];
            for (int i = line; i + 1 < count; i++) {
                rows[i] = rows[i + 1];
                right[i] = right[i + 1];
            }
            count--;
            rows[count] = gone;
        }

        private void dropLiteralsOf(Line row, int line) {
            int i = 0;
            for (int left = row.size(); left > 0; left--) {
                int code = row.codeAt(i);
                long trues = row.trues() & ~trueBit(code);
                long falses = row.falses() & ~falseBit(code);
                if (clashes(trues, falses, line, NONE)) {
                    row.drop(i);
                } else {
                    i++;
                }
            }
        }
    }

    /** The text to be read, and the place in it up to which it is a text of lines. */
    private static final class Reader {
        // Far above every thing's number: a longer run of digits need not be counted on.
        private static final int LARGE = 1000;

        private final int things;
        private final int[] units;
        private int size;
        private int place;

        Reader(int things) {
            this.things = things;
            this.units = new int[MOST_UNITS];
        }

        boolean take(int u) {
            if (u < 0 || u > 255 || size < 0 || size >= units.length) {
                return false;
            }
            units[size] = u;
            size++;
            return true;
        }

        void forget() {
            size = 0;
        }

        int place() {
            return place;
        }

        /** Whether the text is one of lines, which are then in the proof; if not, place() is where. */
        boolean fill(Proof target) {
            target.clear();
            place = 0;
            // Each line that goes well takes a unit or more.
            for (int i = 0; i < MOST_UNITS && place < size; i++) {
                if (!fillLine(target)) {
                    return false;
                }
            }
            return true;
        }

        private boolean fillLine(Proof target) {
            int sort = sortOf(here());
            Line row = sort == NONE ? null : target.open(sort);
            if (row == null) {
                return false;
            }
            place++;
            for (int i = 0; i < MOST_UNITS && here() == BLANK; i++) {
                place++;
                if (!fillLiteral(row)) {
                    return false;
                }
            }
            if (here() != LINE_END) {
                return false;
            }
            place++;
            return true;
        }

        private boolean fillLiteral(Line row) {
            boolean truth = here() != MINUS;
            if (!truth) {
                place++;
            }
            int first = place;
            int number = passNumber();
            if (number < 1 || number > things || !row.add(codeOf(number - 1, truth))) {
                place = first;
                return false;
            }
            return true;
        }

        /** The number that stands here, behind which the place is then; 0 when it may not be one. */
        private int passNumber() {
            boolean zeroAhead = here() == ZERO;
            int number = 0;
            for (int i = 0; i < MOST_UNITS && here() >= ZERO && here() <= NINE; i++) {
                number = Math.min(LARGE, 10 * number + here() - ZERO);
                place++;
            }
            return zeroAhead ? 0 : number;
        }

        private int here() {
            return place >= 0 && place < size && place < units.length ? units[place] : NONE;
        }

        private static int sortOf(int letter) {
            for (int sort = GIVEN; sort <= ANSWER; sort++) {
                if (Line.letterOf(sort) == letter) {
                    return sort;
                }
            }
            return NONE;
        }
    }
}
