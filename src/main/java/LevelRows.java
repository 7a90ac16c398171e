import java.util.Arrays;

/**
 * A row of symbols, kept bit by bit in levels (a wavelet matrix): the first level has the highest
 * bit of every symbol; each level below has the next bit, of the symbols put in order by the bit
 * above it: those with a 0 first, else as they stood.
 */
public final class LevelRows {
    public static final int NONE = -1;

    private static final int MOST_SYMBOLS = 1000;
    private static final int MOST_SIGMA = 65536;
    private static final int MOST_IN_PUT = 10;
    private static final int SYMBOL_BITS = 16;
    private static final int SYMBOL_MASK = 0xFFFF;

    private static final int INT_BITS = 32;
    private static final int WORD_BITS = 64;
    private static final int WORD_SHIFT = 6;
    private static final int MOST_WORDS = (MOST_SYMBOLS + WORD_BITS - 1) / WORD_BITS;
    private static final int BITS_FOR_A_WORD = WORD_BITS + 16;
    private static final int BITS_FOR_A_LEVEL = 32;

    private final int sigma;
    private final Level[] levels;
    private int built;
    private int waiting;

    // Those that wait stand from index built on; what is before them is only used while building.
    private final int[] row = new int[MOST_SYMBOLS];

    // Made once and used again by every call, so that no call makes an object of its own.
    private final int[] spare = new int[MOST_SYMBOLS];
    private final Part part = new Part();
    private final int[] listed = new int[MOST_SYMBOLS];
    private final int[] listedTimes = new int[MOST_SYMBOLS];
    private final int[] ahead = new int[MOST_SYMBOLS + 1];

    public LevelRows(int sigma) {
        this.sigma = Math.max(1, Math.min(MOST_SIGMA, sigma));
        int depth = INT_BITS - Integer.numberOfLeadingZeros(this.sigma - 1);
        levels = new Level[depth];
        for (int i = 0; i < depth; i++) {
            levels[i] = new Level();
        }
    }

    public int put(int a, int b, int c, int d, int e, int n)
            throws IndexOutOfBoundsException, IllegalArgumentException,
            UnsupportedOperationException {
        int given = Math.min(n, MOST_IN_PUT);
        for (int i = 0; i < given; i++) {
            checkSymbol(symbolInPut(i, a, b, c, d, e));
        }
        if (n < 1 || n > MOST_IN_PUT) {
            throw new IllegalArgumentException("n is not 1 .. 10");
        }
        if (n > MOST_SYMBOLS - built - waiting) {
            throw new UnsupportedOperationException("more than 1000 symbols");
        }
        for (int i = 0; i < n; i++) {
            row[built + waiting + i] = symbolInPut(i, a, b, c, d, e);
        }
        waiting += n;
        return waiting;
    }

    public int build() {
        if (waiting > 0) {
            for (int place = 0; place < built; place++) {
                row[place] = symbolAt(place);
            }
            built += waiting;
            waiting = 0;
            storeLevels();
        }
        return built;
    }

    public int at(int place) throws IndexOutOfBoundsException {
        if (place < 0 || place >= built) {
            throw new IndexOutOfBoundsException("no such place");
        }
        return symbolAt(place);
    }

    public int rank(int symbol, int place) throws IndexOutOfBoundsException {
        checkSymbol(symbol);
        checkPart(0, place);
        part.span(0, place);
        descendTo(symbol);
        return part.length();
    }

    public int select(int symbol, int k) throws IndexOutOfBoundsException {
        checkSymbol(symbol);
        checkNotNegative(k);
        part.span(0, built);
        descendTo(symbol);
        return k < part.length() ? climbFrom(part.from + k) : NONE;
    }

    public int quantile(int from, int to, int k) throws IndexOutOfBoundsException {
        checkPart(from, to);
        checkNotNegative(k);
        if (k >= to - from) {
            throw new IndexOutOfBoundsException("the part has not so many symbols");
        }
        return kthLeast(from, to, k);
    }

    public int between(int from, int to, int low, int high) throws IndexOutOfBoundsException {
        checkPart(from, to);
        return low < high ? howManyBelow(from, to, high) - howManyBelow(from, to, low) : 0;
    }

    public int below(int from, int to, int v) throws IndexOutOfBoundsException {
        checkPart(from, to);
        int lesser = howManyBelow(from, to, v);
        return lesser > 0 ? kthLeast(from, to, lesser - 1) : NONE;
    }

    public int above(int from, int to, int v) throws IndexOutOfBoundsException {
        checkPart(from, to);
        int lesser = howManyBelow(from, to, v);
        return lesser < to - from ? kthLeast(from, to, lesser) : NONE;
    }

    public int different(int from, int to) throws IndexOutOfBoundsException {
        checkPart(from, to);
        return listSymbols(from, to);
    }

    public int frequent(int from, int to, int k) throws IndexOutOfBoundsException {
        checkPart(from, to);
        checkNotNegative(k);
        int found = listSymbols(from, to);
        countAhead(found);
        // The list ascends, so of symbols that stand as often the lesser takes the earlier turn.
        for (int i = 0; i < found; i++) {
            int turn = ahead[listedTimes[i]]++;
            if (turn == k) {
                return listed[i];
            }
        }
        return NONE;
    }

    public int bits() {
        int words = (built + WORD_BITS - 1) / WORD_BITS;
        return levels.length * (words * BITS_FOR_A_WORD + BITS_FOR_A_LEVEL);
    }

    public int count(int what) throws IndexOutOfBoundsException {
        switch (what) {
            case 0:
                return built;
            case 1:
                return waiting;
            case 2:
                return levels.length;
            case 3:
                return sigma;
            default:
                throw new IndexOutOfBoundsException("no such what");
        }
    }

    public void clear() {
        built = 0;
        waiting = 0;
        storeLevels();
    }

    private void checkSymbol(int symbol) {
        if (symbol < 0 || symbol >= sigma) {
            throw new IndexOutOfBoundsException("no such symbol");
        }
    }

    private void checkPart(int from, int to) {
        if (from < 0 || to < from || to > built) {
            throw new IndexOutOfBoundsException("no such part");
        }
    }

    private static void checkNotNegative(int k) {
        if (k < 0) {
            throw new IndexOutOfBoundsException("k is below 0");
        }
    }

    private static int symbolInPut(int i, int a, int b, int c, int d, int e) {
        int pair;
        switch (i / 2) {
            case 0:
                pair = a;
                break;
            case 1:
                pair = b;
                break;
            case 2:
                pair = c;
                break;
            case 3:
                pair = d;
                break;
            default:
                pair = e;
                break;
        }
        return i % 2 == 0 ? pair >>> SYMBOL_BITS : pair & SYMBOL_MASK;
    }

    private int shiftOf(int depth) {
        return levels.length - 1 - depth;
    }

    private void storeLevels() {
        for (int i = 0; i < levels.length; i++) {
            levels[i].store(row, built, shiftOf(i), spare);
        }
    }

    private int symbolAt(int place) {
        int symbol = 0;
        int below = place;
        for (int i = 0; i < levels.length; i++) {
            int bit = levels[i].bitAt(below);
            symbol = symbol << 1 | bit;
            below = levels[i].placeBelow(bit, below);
        }
        return symbol;
    }

    /** Leaves of the part only the places of a symbol, as they are below the last level. */
    private void descendTo(int symbol) {
        for (int i = 0; i < levels.length; i++) {
            part.split(levels[i]);
            part.enter(symbol >> shiftOf(i) & 1);
        }
    }

    /** The place in the row of what came to a place below the last level. */
    private int climbFrom(int place) {
        int above = place;
        for (int i = levels.length - 1; i >= 0; i--) {
            above = levels[i].placeAbove(above, built);
        }
        return above;
    }

    /** The k-th least symbol, which must be there; the part then has the places of this symbol. */
    private int kthLeast(int from, int to, int k) {
        part.span(from, to);
        int left = k;
        int symbol = 0;
        for (int i = 0; i < levels.length; i++) {
            part.split(levels[i]);
            int bit = left < part.zeros() ? 0 : 1;
            left -= bit == 0 ? 0 : part.zeros();
            part.enter(bit);
            symbol = symbol << 1 | bit;
        }
        return symbol;
    }

    private int howManyBelow(int from, int to, int v) {
        // The levels have no bits for a number beyond the symbols.
        if (v <= 0) {
            return 0;
        }
        if (v >= sigma) {
            return to - from;
        }
        part.span(from, to);
        int lesser = 0;
        for (int i = 0; i < levels.length; i++) {
            part.split(levels[i]);
            int bit = v >> shiftOf(i) & 1;
            lesser += bit == 0 ? 0 : part.zeros();
            part.enter(bit);
        }
        return lesser;
    }

    /** Lists the different symbols of a part, ascending, and how often each stands: how many. */
    private int listSymbols(int from, int to) {
        int found = 0;
        int passed = 0;
        while (passed < to - from) {
            listed[found] = kthLeast(from, to, passed);
            // Once at least and not more often than is left: so the loop is seen to end, and
            // the number is an index that countAhead can use.
            int times = Math.max(1, Math.min(part.length(), to - from - passed));
            listedTimes[found] = times;
            passed += times;
            found++;
        }
        return found;
    }

    /** Sets for each number of times how many of the listed symbols stand more often. */
    private void countAhead(int found) {
        Arrays.fill(ahead, 0);
        for (int i = 0; i < found; i++) {
            ahead[listedTimes[i]]++;
        }
        int more = 0;
        for (int times = MOST_SYMBOLS; times >= 0; times--) {
            int asOften = ahead[times];
            ahead[times] = more;
            more += asOften;
        }
    }

    /**
     * One bit of every symbol. Only places from 0 up to the row's size (the end) are asked for;
     * that others do no harm is seen here, without a look at what the levels above hold.
     */
    private static final class Level {
        private final long[] words = new long[MOST_WORDS];
        private final short[] onesBefore = new short[MOST_WORDS];
        private int zeros;

        /** Keeps one bit of each symbol and puts the symbols in order for the level below. */
        void store(int[] symbols, int size, int shift, int[] spare) {
            Arrays.fill(words, 0L);
            zeros = 0;
            int ones = 0;
            for (int place = 0; place < size; place++) {
                int word = place >> WORD_SHIFT;
                if (place % WORD_BITS == 0) {
                    onesBefore[word] = (short) ones;
                }
                int symbol = symbols[place];
                if ((symbol >> shift & 1) == 0) {
                    symbols[zeros] = symbol;
                    zeros++;
                } else {
                    words[word] |= 1L << place % WORD_BITS;
                    spare[ones] = symbol;
                    ones++;
                }
            }
            System.arraycopy(spare, 0, symbols, zeros, ones);
        }

        int bitAt(int place) {
            if (place < 0 || place >= MOST_SYMBOLS) {
                return 0;
            }
            return (int) (words[place >> WORD_SHIFT] >>> place % WORD_BITS) & 1;
        }

        int zerosTo(int place) {
            return place - onesTo(place);
        }

        private int onesTo(int place) {
            if (place <= 0) {
                return 0;
            }
            // Counted by the last place before it: the end of a full word has no word of its own.
            int last = Math.min(place, MOST_SYMBOLS) - 1;
            int word = last >> WORD_SHIFT;
            long upToLast = words[word] << WORD_BITS - 1 - last % WORD_BITS;
            return onesBefore[word] + Long.bitCount(upToLast);
        }

        int placeBelow(int bit, int place) {
            return bit == 0 ? zerosTo(place) : zeros + onesTo(place);
        }

        /** Where in this level that stands which came to a place of the level below. */
        int placeAbove(int place, int size) {
            boolean isOne = place >= zeros;
            int before = isOne ? place - zeros : place;
            int found = 0;
            for (int step = Integer.highestOneBit(MOST_SYMBOLS); step > 0; step /= 2) {
                int next = found + step;
                if (next <= size && (isOne ? onesTo(next) : zerosTo(next)) <= before) {
                    found = next;
                }
            }
            return found;
        }
    }

    /** A part of a level that goes down with its symbols, level by level. */
    private static final class Part {
        private int from;
        private int to;
        private int zerosFrom;
        private int zerosTo;
        private int onesFrom;
        private int onesTo;

        void span(int first, int end) {
            from = first;
            to = end;
        }

        int length() {
            return to - from;
        }

        /** Finds where the zeros and the ones of the part go in the level below. */
        void split(Level level) {
            zerosFrom = level.zerosTo(from);
            zerosTo = level.zerosTo(to);
            onesFrom = level.zeros + from - zerosFrom;
            onesTo = level.zeros + to - zerosTo;
        }

        int zeros() {
            return zerosTo - zerosFrom;
        }

        void enter(int bit) {
            from = bit == 0 ? zerosFrom : onesFrom;
            to = bit == 0 ? zerosTo : onesTo;
        }
    }
}
