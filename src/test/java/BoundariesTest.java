import java.util.Arrays;
import java.util.function.IntPredicate;
import java.util.stream.IntStream;

/** The sentences of the promises 1 to 15 that name a boundary case, each by itself. */
final class BoundariesTest {
    private static final int LEAST = Integer.MIN_VALUE;
    private static final int GREATEST = Integer.MAX_VALUE;

    // Beside the symbols 0 .. 5, the three bits that they need, 16 bits, and all bits.
    private static final int[] ANY_NUMBERS = {
        LEAST, LEAST + 1, -65536, -8, -1, 0, 1, 2, 3, 4, 5, 6, 7, 8, 9, 65535, 65536, 65537,
        GREATEST - 1, GREATEST
    };
    private static final int[] ROW = {3, 1, 4, 1, 5, 2, 1, 4};

    public static void main(String[] args) {
        newObject();
        theNearest();
        firstOfTen();
        higherFirst();
        howManyWait();
        oneOfThemIsNoSymbol();
        isNotOneToTen();
        moreThan1000();
        allThatWait();
        atAPlace();
        beforeAPlace();
        forTheKthTime();
        noKthTime();
        selectBelow0();
        kthLeast();
        notSoMany();
        fromLowOnBelowHigh();
        greatestBelow();
        leastNotBelow();
        howManyDifferent();
        lesserFirst();
        frequentNone();
        frequentBelow0();
        bitsStored();
        countOfWhat();
        noSuchWhat();
        cleared();
        Check.end();
    }

    private static void newObject() {
        Check.sentence("1: An empty row of symbols below sigma");
        LevelRows rows = new LevelRows(6);
        Check.due("built", 0, () -> rows.count(0));
        Check.due("waiting", 0, () -> rows.count(1));
        Check.due("nothing to build", 0, rows::build);
        Check.thrown("at", Check.PLACE, () -> rows.at(0));
        Check.due("rank", 0, () -> rows.rank(5, 0));
        Check.due("select", -1, () -> rows.select(5, 0));
        Check.due("different", 0, () -> rows.different(0, 0));
    }

    private static void theNearest() {
        Check.sentence("1: 1 .. 65536, the nearest");
        int[][] givenAndDue = {
            {LEAST, 1}, {LEAST + 1, 1}, {-65536, 1}, {-1, 1}, {0, 1}, {1, 1}, {2, 2},
            {65535, 65535}, {65536, 65536}, {65537, 65536}, {131072, 65536}, {GREATEST, 65536}
        };
        for (int[] one : givenAndDue) {
            int sigma = one[1];
            LevelRows rows = new LevelRows(one[0]);
            String name = "given " + one[0];
            Check.due(name, sigma, () -> rows.count(3));
            Check.due(name + ", greatest symbol", 0, () -> rows.rank(sigma - 1, 0));
            Check.due(name + ", put it", 1, () -> rows.put(sigma - 1 << 16, 0, 0, 0, 0, 1));
            Check.thrown(name + ", no symbol", Check.PLACE, () -> rows.rank(sigma, 0));
        }
    }

    private static void firstOfTen() {
        Check.sentence("2: The first n of ten symbols wait");
        for (int given = 1; given <= 10; given++) {
            int n = given;
            LevelRows rows = new LevelRows(11);
            Check.due("n " + n, n,
                    () -> rows.put(0x10002, 0x30004, 0x50006, 0x70008, 0x9000A, n));
            Check.due("n " + n + ", build", n, rows::build);
            for (int i = 0; i < n; i++) {
                int place = i;
                Check.due("n " + n + ", at " + place, place + 1, () -> rows.at(place));
            }
            Check.thrown("n " + n + ", no more", Check.PLACE, () -> rows.at(n));
        }
    }

    private static void higherFirst() {
        Check.sentence("2: two in a number, the higher one (its 16 bits) first");
        int[] pairs = {0xFFFF_0000, 0x0000_FFFF, 0x8000_7FFF, 0x7FFF_8000, 0xFFFF_FFFF};
        LevelRows rows = new LevelRows(65536);
        Check.due("put", 10,
                () -> rows.put(pairs[0], pairs[1], pairs[2], pairs[3], pairs[4], 10));
        rows.build();
        int[] due = {65535, 0, 0, 65535, 32768, 32767, 32767, 32768, 65535, 65535};
        for (int i = 0; i < due.length; i++) {
            int place = i;
            Check.due("at " + place, due[place], () -> rows.at(place));
        }
    }

    private static void howManyWait() {
        Check.sentence("2: how many wait");
        LevelRows rows = new LevelRows(6);
        Check.due("one", 1, () -> rows.put(0, 0, 0, 0, 0, 1));
        Check.due("ten more", 11, () -> rows.put(0, 0, 0, 0, 0, 10));
        rows.build();
        Check.due("those built do not count", 2, () -> rows.put(0, 0, 0, 0, 0, 2));
        rows.clear();
        Check.due("those cleared do not count", 3, () -> rows.put(0, 0, 0, 0, 0, 3));
    }

    private static void oneOfThemIsNoSymbol() {
        Check.sentence("2: one of them is no symbol");
        for (int wrong = 0; wrong < 10; wrong++) {
            int[] five = new int[5];
            five[wrong / 2] = 6 << (wrong % 2 == 0 ? 16 : 0);
            for (int given = 1; given <= 10; given++) {
                int n = given;
                LevelRows rows = new LevelRows(6);
                Check.Call put = () -> rows.put(five[0], five[1], five[2], five[3], five[4], n);
                if (wrong < n) {
                    Check.thrown("n " + n + ", wrong " + wrong, Check.PLACE, put);
                } else {
                    Check.due("n " + n + ", not given " + wrong, n, put);
                }
            }
        }
        // The higher bit makes the whole number negative, not the symbol.
        Check.thrown("negative number", Check.PLACE,
                () -> new LevelRows(6).put(0x8000_0000, 0, 0, 0, 0, 1));
        Check.thrown("all bits", Check.PLACE, () -> new LevelRows(65535).put(-1, 0, 0, 0, 0, 1));
    }

    private static void isNotOneToTen() {
        Check.sentence("2: n is not 1 .. 10");
        for (int n : new int[] {LEAST, LEAST + 1, -10, -1, 0, 11, 12, 1001, 65537, GREATEST}) {
            LevelRows rows = new LevelRows(6);
            Check.thrown("n " + n, Check.ARGUMENT, () -> rows.put(0, 0, 0, 0, 0, n));
            Check.due("n " + n + ", none waits", 0, () -> rows.count(1));
        }
        Check.thrown("there is none of no symbols", Check.ARGUMENT,
                () -> new LevelRows(6).put(-1, -1, -1, -1, -1, 0));
    }

    private static void moreThan1000() {
        Check.sentence("2: there would be more than 1000 with those built");
        for (int built : new int[] {0, 1, 64, 500, 990, 999, 1000}) {
            for (int given = 1; given <= 10; given++) {
                int n = given;
                LevelRows rows = Rows.of(6, new int[built]);
                Rows.putZeros(rows, Math.max(0, 1000 - n - built));
                int before = built + rows.count(1);
                String name = built + " built, " + before + " in all, n " + n;
                Check.Call put = () -> rows.put(0, 0, 0, 0, 0, n);
                if (before + n > 1000) {
                    Check.thrown(name, Check.FULL, put);
                    continue;
                }
                Check.due(name, 1000 - built, put);
                Check.thrown(name + ", one more", Check.FULL, () -> rows.put(0, 0, 0, 0, 0, 1));
                Check.due(name + ", build", 1000, rows::build);
                Check.thrown(name + ", then", Check.FULL, () -> rows.put(0, 0, 0, 0, 0, 1));
            }
        }
        LevelRows rows = Rows.of(6, new int[991]);
        Check.thrown("ten are one too many", Check.FULL, () -> rows.put(0, 0, 0, 0, 0, 10));
        Check.due("nine are not", 9, () -> rows.put(0, 0, 0, 0, 0, 9));
    }

    private static void allThatWait() {
        Check.sentence("3: All that wait are built: how many symbols the row has then");
        LevelRows rows = new LevelRows(6);
        Check.due("none waits", 0, rows::build);
        Rows.put(rows, 5);
        Check.due("one", 1, rows::build);
        Check.due("none more", 1, rows::build);
        Check.due("it stays", 5, () -> rows.at(0));
        Check.due("none waits then", 0, () -> rows.count(1));
        Rows.putZeros(rows, 999);
        Check.due("all that there can be", 1000, rows::build);
        Check.due("the first", 5, () -> rows.at(0));
        Check.due("the last", 0, () -> rows.at(999));
        Check.due("of 1000 once more", 1000, rows::build);
    }

    private static void atAPlace() {
        Check.sentence("4: The symbol at a place");
        LevelRows rows = Rows.of(6, ROW);
        for (int i = 0; i < ROW.length; i++) {
            int place = i;
            Check.due("at " + place, ROW[place], () -> rows.at(place));
        }
        for (int place : new int[] {LEAST, -1, ROW.length, ROW.length + 1, GREATEST}) {
            Check.thrown("at " + place, Check.PLACE, () -> rows.at(place));
        }
    }

    private static void beforeAPlace() {
        Check.sentence("5: How often a symbol stands before a place (which may be the end)");
        LevelRows rows = Rows.of(6, ROW);
        for (int i = 0; i <= ROW.length; i++) {
            int place = i;
            for (int j = 0; j < 6; j++) {
                int symbol = j;
                int due = howMany(0, place, s -> s == symbol);
                Check.due(symbol + " before " + place, due, () -> rows.rank(symbol, place));
            }
        }
        for (int place : new int[] {LEAST, -1, ROW.length + 1, GREATEST}) {
            Check.thrown("before " + place, Check.PLACE, () -> rows.rank(1, place));
            Check.thrown("of none, before " + place, Check.PLACE, () -> rows.rank(0, place));
        }
        Check.due("the end of an empty row", 0, () -> new LevelRows(6).rank(0, 0));
        Check.due("the end of a full row", 1000, () -> Rows.of(6, new int[1000]).rank(0, 1000));
    }

    private static void forTheKthTime() {
        Check.sentence("6: The place at which a symbol stands for the k-th time (from 0)");
        LevelRows rows = Rows.of(6, ROW);
        int[][] symbolKPlace = {
            {1, 0, 1}, {1, 1, 3}, {1, 2, 6}, {2, 0, 5}, {3, 0, 0}, {4, 0, 2}, {4, 1, 7}, {5, 0, 4}
        };
        for (int[] one : symbolKPlace) {
            Check.due(one[0] + " for the time " + one[1], one[2],
                    () -> rows.select(one[0], one[1]));
        }
        LevelRows full = Rows.of(6, new int[1000]);
        for (int k : new int[] {0, 63, 64, 65, 960, 999}) {
            Check.due("full, " + k, k, () -> full.select(0, k));
        }
        Check.due("full, no more", -1, () -> full.select(0, 1000));
    }

    private static void noKthTime() {
        Check.sentence("6: NONE if it does not");
        LevelRows rows = Rows.of(6, ROW);
        int[] times = {0, 3, 1, 1, 2, 1};
        for (int i = 0; i < times.length; i++) {
            int symbol = i;
            for (int k : new int[] {times[i], times[i] + 1, 8, 1000, GREATEST - 1, GREATEST}) {
                Check.due(symbol + " for the time " + k, -1, () -> rows.select(symbol, k));
            }
        }
        Check.due("empty", -1, () -> new LevelRows(6).select(0, 0));
    }

    private static void selectBelow0() {
        Check.sentence("6: also k below 0");
        for (int k : new int[] {LEAST, LEAST + 1, -1000, -2, -1}) {
            LevelRows rows = Rows.of(6, ROW);
            Check.thrown("k " + k, Check.PLACE, () -> rows.select(4, k));
            Check.thrown("k " + k + " of none", Check.PLACE, () -> rows.select(0, k));
            Check.thrown("k " + k + ", empty", Check.PLACE, () -> new LevelRows(6).select(0, k));
        }
    }

    private static void kthLeast() {
        Check.sentence("7: The k-th least symbol (from 0) of a part, each as often as it stands");
        for (int from = 0; from < ROW.length; from++) {
            for (int to = from + 1; to <= ROW.length; to++) {
                quantilesOf(from, to);
            }
        }
    }

    private static void quantilesOf(int from, int to) {
        LevelRows rows = Rows.of(6, ROW);
        int[] sorted = Arrays.copyOfRange(ROW, from, to);
        Arrays.sort(sorted);
        for (int i = 0; i < sorted.length; i++) {
            int k = i;
            Check.due(from + " .. " + to + ", k " + k, sorted[k], () -> rows.quantile(from, to, k));
        }
    }

    private static void notSoMany() {
        Check.sentence("7: also when it has not so many");
        LevelRows rows = Rows.of(6, ROW);
        int[][] parts = {{0, 8}, {0, 1}, {7, 8}, {2, 5}, {0, 0}, {4, 4}, {8, 8}};
        for (int[] part : parts) {
            int length = part[1] - part[0];
            for (int k : new int[] {length, length + 1, 1000, GREATEST, -1, -2, LEAST}) {
                Check.thrown(part[0] + " .. " + part[1] + ", k " + k, Check.PLACE,
                        () -> rows.quantile(part[0], part[1], k));
            }
        }
        Check.thrown("empty", Check.PLACE, () -> new LevelRows(6).quantile(0, 0, 0));
    }

    private static void fromLowOnBelowHigh() {
        Check.sentence("8: a symbol from low on, below high (any numbers)");
        int[][] parts = {{0, 8}, {1, 6}, {7, 8}, {0, 0}, {8, 8}};
        for (int[] part : parts) {
            LevelRows rows = Rows.of(6, ROW);
            for (int low : ANY_NUMBERS) {
                for (int high : ANY_NUMBERS) {
                    int due = howMany(part[0], part[1], s -> low <= s && s < high);
                    Check.due(part[0] + " .. " + part[1] + " from " + low + " below " + high, due,
                            () -> rows.between(part[0], part[1], low, high));
                }
            }
        }
    }

    private static void greatestBelow() {
        Check.sentence("9: The greatest symbol that is below a number; NONE if there is none");
        LevelRows rows = Rows.of(6, ROW);
        for (int v : ANY_NUMBERS) {
            for (int[] part : new int[][] {{0, 8}, {0, 4}, {2, 3}, {8, 8}}) {
                int due = IntStream.range(part[0], part[1]).map(i -> ROW[i]).filter(s -> s < v)
                        .max().orElse(-1);
                Check.due(part[0] + " .. " + part[1] + " below " + v, due,
                        () -> rows.below(part[0], part[1], v));
            }
        }
        LevelRows wide = Rows.of(65536, 65535, 0);
        Check.due("the greatest of all", 65535, () -> wide.below(0, 2, 65536));
        Check.due("not itself", 0, () -> wide.below(0, 2, 65535));
        Check.due("none below the least of all", -1, () -> wide.below(0, 2, 0));
    }

    private static void leastNotBelow() {
        Check.sentence("10: The least symbol that is not below a number; NONE if there is none");
        LevelRows rows = Rows.of(6, ROW);
        for (int v : ANY_NUMBERS) {
            for (int[] part : new int[][] {{0, 8}, {0, 4}, {2, 3}, {8, 8}}) {
                int due = IntStream.range(part[0], part[1]).map(i -> ROW[i]).filter(s -> s >= v)
                        .min().orElse(-1);
                Check.due(part[0] + " .. " + part[1] + " above " + v, due,
                        () -> rows.above(part[0], part[1], v));
            }
        }
        LevelRows wide = Rows.of(65536, 65535, 0);
        Check.due("itself", 65535, () -> wide.above(0, 2, 65535));
        Check.due("none above the greatest of all", -1, () -> wide.above(0, 2, 65536));
        Check.due("the least of all", 0, () -> wide.above(0, 2, 0));
    }

    private static void howManyDifferent() {
        Check.sentence("11: How many different symbols a part has");
        LevelRows rows = Rows.of(6, ROW);
        for (int i = 0; i <= ROW.length; i++) {
            for (int j = i; j <= ROW.length; j++) {
                int from = i;
                int to = j;
                int due = (int) Arrays.stream(ROW, from, to).distinct().count();
                Check.due(from + " .. " + to, due, () -> rows.different(from, to));
            }
        }
        LevelRows wide = Rows.of(1000, IntStream.range(0, 1000).map(i -> 999 - i).toArray());
        Check.due("1000 different ones", 1000, () -> wide.different(0, 1000));
        Check.due("one place", 1, () -> wide.different(999, 1000));
        LevelRows same = Rows.of(65536, IntStream.range(0, 1000).map(i -> 65535).toArray());
        Check.due("1000 of one", 1, () -> same.different(0, 1000));
    }

    private static void lesserFirst() {
        Check.sentence("12: the most first; of as often, the lesser symbol first; k from 0");
        LevelRows rows = Rows.of(6, 5, 4, 3, 3, 0, 5, 0, 5, 2);
        int[] due = {5, 0, 3, 2, 4};
        for (int i = 0; i < due.length; i++) {
            int k = i;
            Check.due("k " + k, due[k], () -> rows.frequent(0, 9, k));
        }
        Check.due("a part in which none stands twice", 3, () -> rows.frequent(0, 3, 0));
        Check.due("its last", 5, () -> rows.frequent(0, 3, 2));
        Check.due("one place", 2, () -> rows.frequent(8, 9, 0));
        int[] twice = IntStream.range(0, 1000).map(i -> 499 - i % 500).toArray();
        LevelRows full = Rows.of(500, twice);
        Check.due("500 of as often, first", 0, () -> full.frequent(0, 1000, 0));
        Check.due("500 of as often, last", 499, () -> full.frequent(0, 1000, 499));
        Check.due("all but one of as often", 499, () -> full.frequent(0, 999, 498));
        Check.due("one less often", 0, () -> full.frequent(0, 999, 499));
        Check.due("the 1000 different ones' last", 999,
                () -> Rows.of(1000, IntStream.range(0, 1000).toArray()).frequent(0, 1000, 999));
    }

    private static void frequentNone() {
        Check.sentence("12: NONE if it has not so many");
        LevelRows rows = Rows.of(6, 5, 4, 3, 3, 0, 5, 0, 5, 2);
        int[][] partAndMany = {{0, 9, 5}, {0, 1, 1}, {2, 4, 1}, {0, 0, 0}, {9, 9, 0}};
        for (int[] one : partAndMany) {
            for (int k : new int[] {one[2], one[2] + 1, 9, 1000, GREATEST - 1, GREATEST}) {
                Check.due(one[0] + " .. " + one[1] + ", k " + k, -1,
                        () -> rows.frequent(one[0], one[1], k));
            }
        }
        LevelRows full = Rows.of(6, new int[1000]);
        Check.due("1000 of one", 0, () -> full.frequent(0, 1000, 0));
        Check.due("no other one", -1, () -> full.frequent(0, 1000, 1));
        Check.due("empty", -1, () -> new LevelRows(6).frequent(0, 0, 0));
    }

    private static void frequentBelow0() {
        Check.sentence("12: also k below 0");
        for (int k : new int[] {LEAST, LEAST + 1, -1000, -2, -1}) {
            LevelRows rows = Rows.of(6, ROW);
            Check.thrown("k " + k, Check.PLACE, () -> rows.frequent(0, 8, k));
            Check.thrown("k " + k + ", empty part", Check.PLACE, () -> rows.frequent(8, 8, k));
            Check.thrown("k " + k + ", empty", Check.PLACE,
                    () -> new LevelRows(6).frequent(0, 0, k));
        }
    }

    private static void bitsStored() {
        Check.sentence("13: How many bits are stored");
        LevelRows rows = new LevelRows(65536);
        Check.due("an empty row", 16 * 32, rows::bits);
        Rows.putZeros(rows, 65);
        Check.due("those that wait are not in the built row", 16 * 32, rows::bits);
        rows.build();
        Check.due("two words", 16 * (2 * 80 + 32), rows::bits);
        Rows.putZeros(rows, 935);
        Check.due("two words and 935 that wait", 16 * (2 * 80 + 32), rows::bits);
        rows.build();
        Check.due("a full row", 16 * (16 * 80 + 32), rows::bits);
        rows.clear();
        Check.due("cleared", 16 * 32, rows::bits);
        Check.due("one level", 32 + 80, Rows.of(2, 1, 0)::bits);
        Check.due("no level", 0, Rows.of(1, 0, 0)::bits);
    }

    private static void countOfWhat() {
        Check.sentence("14: what = 0 symbols built, 1 waiting, 2 levels, 3 SIGMA");
        LevelRows rows = Rows.of(600, ROW);
        Rows.putZeros(rows, 992);
        int[] due = {8, 992, 10, 600};
        for (int i = 0; i < due.length; i++) {
            int what = i;
            Check.due("what " + what, due[what], () -> rows.count(what));
        }
        rows.build();
        Check.due("built then", 1000, () -> rows.count(0));
        Check.due("waiting then", 0, () -> rows.count(1));
    }

    private static void noSuchWhat() {
        Check.sentence("14: there is no such what");
        for (int what : new int[] {LEAST, LEAST + 1, -2, -1, 4, 5, 65536, GREATEST}) {
            Check.thrown("what " + what, Check.PLACE, () -> new LevelRows(6).count(what));
            Check.thrown("what " + what + ", of some", Check.PLACE,
                    () -> Rows.of(6, ROW).count(what));
        }
    }

    private static void cleared() {
        Check.sentence("15: An empty row, none wait");
        LevelRows empty = new LevelRows(6);
        clearedIsEmpty("an empty one", empty);
        LevelRows built = Rows.of(6, ROW);
        clearedIsEmpty("a built one", built);
        LevelRows waiting = new LevelRows(6);
        Rows.put(waiting, ROW);
        clearedIsEmpty("one that waits", waiting);
        LevelRows both = Rows.of(6, new int[500]);
        Rows.putZeros(both, 500);
        clearedIsEmpty("a full one", both);
        clearedIsEmpty("one cleared before", both);
    }

    private static void clearedIsEmpty(String name, LevelRows rows) {
        rows.clear();
        int[] due = {0, 0, 3, 6};
        for (int i = 0; i < due.length; i++) {
            int what = i;
            Check.due(name + ", count " + what, due[what], () -> rows.count(what));
        }
        Check.due(name + ", bits", 96, rows::bits);
        Check.due(name + ", nothing to build", 0, rows::build);
        Check.thrown(name + ", at", Check.PLACE, () -> rows.at(0));
        Check.due(name + ", rank", 0, () -> rows.rank(1, 0));
        Check.thrown(name + ", rank beyond", Check.PLACE, () -> rows.rank(1, 1));
        Check.due(name + ", select", -1, () -> rows.select(1, 0));
        Check.thrown(name + ", part", Check.PLACE, () -> rows.different(0, 1));
        Check.due(name + ", different", 0, () -> rows.different(0, 0));
        Check.due(name + ", frequent", -1, () -> rows.frequent(0, 0, 0));
        Check.due(name + ", put", 2, () -> rows.put(0x0002_0003, 0, 0, 0, 0, 2));
        Check.due(name + ", build", 2, rows::build);
        Check.due(name + ", first", 2, () -> rows.at(0));
        Check.due(name + ", second", 3, () -> rows.at(1));
        Check.due(name + ", nothing left over", 0, () -> rows.rank(1, 2));
        Rows.putZeros(rows, 998);
        Check.due(name + ", room for 1000", 1000, rows::build);
        Check.due(name + ", the last", 0, () -> rows.at(999));
    }

    private static int howMany(int from, int to, IntPredicate wanted) {
        return (int) Arrays.stream(ROW, from, to).filter(wanted).count();
    }
}
