import java.util.ArrayList;
import java.util.Arrays;
import java.util.List;
import java.util.function.Supplier;
import java.util.stream.IntStream;

/** The sentences of the document's section "Terms" that name a boundary case, each by itself. */
final class TermsTest {
    private static final int LEAST = Integer.MIN_VALUE;
    private static final int GREATEST = Integer.MAX_VALUE;

    /** A call whose object is still to be made. */
    private interface Ask {
        int of(LevelRows rows);
    }

    private record Refused(String name, Class<? extends RuntimeException> due, Ask ask) {
    }

    public static void main(String[] args) {
        upTo1000();
        symbolsBelowSigma();
        levels();
        noLevels();
        waitingTillBuilt();
        inTheOrderInWhichTheyCame();
        partWithoutItsEnd();
        emptyParts();
        wordsRoundedUp();
        notMoreThanSaid();
        aroundTheEndsOfWords();
        namedFirst();
        noSuchPlace();
        noSuchSymbol();
        noSuchPart();
        changesNothing();
        Check.end();
    }

    private static void upTo1000() {
        Check.sentence("A row has up to 1000 SYMBOLS, at places from 0 on");
        LevelRows rows = Rows.of(65536, IntStream.range(0, 1000).map(i -> i * 65).toArray());
        Check.due("built", 1000, () -> rows.count(0));
        for (int place : new int[] {0, 1, 63, 64, 511, 512, 959, 960, 998, 999}) {
            Check.due("at " + place, place * 65, () -> rows.at(place));
        }
        Check.thrown("before the first", Check.PLACE, () -> rows.at(-1));
        Check.thrown("behind the last", Check.PLACE, () -> rows.at(1000));
        Check.thrown("one more", Check.FULL, () -> rows.put(0, 0, 0, 0, 0, 1));
    }

    private static void symbolsBelowSigma() {
        Check.sentence("SYMBOLS, 0 .. SIGMA less 1");
        for (int sigma : new int[] {1, 2, 3, 4, 5, 6, 255, 256, 257, 32769, 65535, 65536}) {
            int greatest = sigma - 1;
            LevelRows rows = new LevelRows(sigma);
            String name = "sigma " + sigma;
            Check.due(name + ", least and greatest", 2, () -> rows.put(greatest, 0, 0, 0, 0, 2));
            Check.due(name + ", greatest first", 3,
                    () -> rows.put(greatest << 16, 0, 0, 0, 0, 1));
            if (sigma <= 0xFFFF) {
                Check.thrown(name + ", higher", Check.PLACE,
                        () -> rows.put(sigma << 16, 0, 0, 0, 0, 1));
                Check.thrown(name + ", lower", Check.PLACE, () -> rows.put(sigma, 0, 0, 0, 0, 2));
            }
            rows.build();
            Check.due(name + ", at 0", 0, () -> rows.at(0));
            Check.due(name + ", at 1", greatest, () -> rows.at(1));
            Check.due(name + ", at 2", greatest, () -> rows.at(2));
            Check.due(name + ", rank", sigma == 1 ? 3 : 2, () -> rows.rank(greatest, 3));
            Check.due(name + ", select", sigma == 1 ? 1 : 2, () -> rows.select(greatest, 1));
        }
    }

    private static void levels() {
        Check.sentence("LEVELS are how many bits SIGMA less 1 needs");
        for (int needed = 1; needed <= 16; needed++) {
            int most = 1 << needed;
            int least = most / 2 + 1;
            Check.due("sigma " + least, needed, () -> new LevelRows(least).count(2));
            Check.due("sigma " + most, needed, () -> new LevelRows(most).count(2));
        }
    }

    private static void noLevels() {
        Check.sentence("LEVELS are 0 for SIGMA 1");
        LevelRows rows = new LevelRows(1);
        Check.due("levels", 0, () -> rows.count(2));
        Check.due("bits of none", 0, rows::bits);
        Rows.putZeros(rows, 1000);
        Check.due("build", 1000, rows::build);
        Check.due("bits", 0, rows::bits);
        Check.due("at", 0, () -> rows.at(999));
        Check.due("rank", 65, () -> rows.rank(0, 65));
        Check.due("rank of the end", 1000, () -> rows.rank(0, 1000));
        Check.due("select", 999, () -> rows.select(0, 999));
        Check.due("select none", -1, () -> rows.select(0, 1000));
        Check.due("quantile", 0, () -> rows.quantile(3, 70, 66));
        Check.thrown("quantile none", Check.PLACE, () -> rows.quantile(3, 70, 67));
        Check.due("between", 67, () -> rows.between(3, 70, 0, 1));
        Check.due("between none", 0, () -> rows.between(3, 70, 1, 2));
        Check.due("below", 0, () -> rows.below(3, 70, 1));
        Check.due("below none", -1, () -> rows.below(3, 70, 0));
        Check.due("above", 0, () -> rows.above(3, 70, 0));
        Check.due("above none", -1, () -> rows.above(3, 70, 1));
        Check.due("different", 1, () -> rows.different(3, 70));
        Check.due("different none", 0, () -> rows.different(70, 70));
        Check.due("frequent", 0, () -> rows.frequent(3, 70, 0));
        Check.due("frequent none", -1, () -> rows.frequent(3, 70, 1));
        Check.thrown("no other symbol", Check.PLACE, () -> rows.rank(1, 0));
    }

    private static void waitingTillBuilt() {
        Check.sentence("Symbols are WAITING till they are BUILT");
        LevelRows rows = Rows.of(6, 3, 1);
        Rows.put(rows, 5, 5);
        int bits = rows.bits();
        for (Refused one : ofTheThirdPlace()) {
            Check.thrown(one.name, one.due, () -> one.ask.of(rows));
        }
        Check.due("rank", 0, () -> rows.rank(5, 2));
        Check.due("select", -1, () -> rows.select(5, 0));
        Check.due("built", 2, () -> rows.count(0));
        Check.due("waiting", 2, () -> rows.count(1));
        rows.build();
        for (Refused one : ofTheThirdPlace()) {
            String got = Check.outcome(() -> one.ask.of(rows));
            Check.said(one.name + " answers then", "false",
                    Boolean.toString(got.equals(one.due.getName())));
        }
        Check.due("rank then", 2, () -> rows.rank(5, 4));
        Check.due("select then", 2, () -> rows.select(5, 0));
        Check.due("built then", 4, () -> rows.count(0));
        Check.due("waiting then", 0, () -> rows.count(1));
        Check.due("still one word", bits, rows::bits);
    }

    private static List<Refused> ofTheThirdPlace() {
        return List.of(
                new Refused("at", Check.PLACE, rows -> rows.at(2)),
                new Refused("rank", Check.PLACE, rows -> rows.rank(5, 3)),
                new Refused("quantile", Check.PLACE, rows -> rows.quantile(0, 3, 0)),
                new Refused("between", Check.PLACE, rows -> rows.between(0, 3, 0, 6)),
                new Refused("below", Check.PLACE, rows -> rows.below(0, 3, 6)),
                new Refused("above", Check.PLACE, rows -> rows.above(0, 3, 0)),
                new Refused("different", Check.PLACE, rows -> rows.different(0, 3)),
                new Refused("frequent", Check.PLACE, rows -> rows.frequent(0, 3, 0)));
    }

    private static void inTheOrderInWhichTheyCame() {
        Check.sentence("all that were built before and all that waited are the row, in the order");
        int[] came = IntStream.range(0, 300).map(i -> i * i * 31 % 1009).toArray();
        LevelRows rows = new LevelRows(1009);
        int next = 0;
        // The steps end before, at and behind the end of a word.
        for (int end : new int[] {1, 2, 63, 64, 65, 127, 191, 192, 256, 257, 300}) {
            Rows.put(rows, Arrays.copyOfRange(came, next, end));
            Check.due("build", end, rows::build);
            next = end;
        }
        for (int i = 0; i < came.length; i++) {
            int place = i;
            Check.due("at " + place, came[place], () -> rows.at(place));
        }
    }

    private static void partWithoutItsEnd() {
        Check.sentence("A PART goes from a place to another one (without it)");
        LevelRows rows = Rows.of(6, 5, 0, 4, 1);
        Check.due("quantile has the first", 5, () -> rows.quantile(0, 1, 0));
        Check.due("quantile has not the end", 5, () -> rows.quantile(0, 2, 1));
        Check.due("quantile has the place before the end", 0, () -> rows.quantile(0, 2, 0));
        Check.due("quantile, least", 4, () -> rows.quantile(2, 3, 0));
        Check.due("between has the first", 1, () -> rows.between(2, 4, 4, 5));
        Check.due("between has not the one before", 0, () -> rows.between(2, 4, 0, 1));
        Check.due("between has not the end", 0, () -> rows.between(0, 3, 1, 2));
        Check.due("between has the last", 1, () -> rows.between(0, 4, 1, 2));
        Check.due("below has not the end", 0, () -> rows.below(1, 3, 4));
        Check.due("below has the last", 1, () -> rows.below(1, 4, 4));
        Check.due("above has not the end", 4, () -> rows.above(1, 3, 1));
        Check.due("above has the last", 1, () -> rows.above(1, 4, 1));
        Check.due("above has not the one before", -1, () -> rows.above(1, 4, 5));
        Check.due("different", 3, () -> rows.different(0, 3));
        Check.due("different of all", 4, () -> rows.different(0, 4));
        Check.due("frequent has not the end", -1, () -> rows.frequent(0, 1, 1));
        Check.due("frequent has the last", 5, () -> rows.frequent(0, 4, 3));
    }

    private static void emptyParts() {
        Check.sentence("A PART goes from a place to another one: an empty one");
        for (int size : new int[] {0, 1, 64, 65, 1000}) {
            LevelRows rows = new LevelRows(6);
            Rows.put(rows, IntStream.range(0, size).map(i -> i % 6).toArray());
            rows.build();
            for (int place : new int[] {0, size / 2, size}) {
                String name = size + " symbols, place " + place;
                Check.thrown(name + ", quantile", Check.PLACE,
                        () -> rows.quantile(place, place, 0));
                Check.due(name + ", between", 0,
                        () -> rows.between(place, place, LEAST, GREATEST));
                Check.due(name + ", below", -1, () -> rows.below(place, place, GREATEST));
                Check.due(name + ", above", -1, () -> rows.above(place, place, LEAST));
                Check.due(name + ", different", 0, () -> rows.different(place, place));
                Check.due(name + ", frequent", -1, () -> rows.frequent(place, place, 0));
            }
        }
    }

    private static void wordsRoundedUp() {
        Check.sentence("as many as n / 64 rounded up, and for each of these a number of 16 bits");
        int words = 0;
        for (int n = 0; n <= 1000; n++) {
            // A new word begins with the first symbol that the words before it do not hold.
            words += n % 64 == 1 ? 1 : 0;
            LevelRows rows = Rows.of(6, new int[n]);
            Check.due("n " + n, 3 * (words * 64 + words * 16 + 32), rows::bits);
        }
        Check.due("words of 1000", 16, () -> (Rows.of(2, new int[1000]).bits() - 32) / 80);
    }

    private static void notMoreThanSaid() {
        Check.sentence("not more than 5 / 4 of n times LEVELS, and 112 bits for each level");
        for (int sigma : new int[] {1, 2, 3, 256, 257, 65536}) {
            for (int n : new int[] {0, 1, 2, 63, 64, 65, 128, 129, 960, 961, 999, 1000}) {
                LevelRows rows = Rows.of(sigma, new int[n]);
                int levels = rows.count(2);
                boolean holds = 4 * rows.bits() <= 5 * n * levels + 4 * 112 * levels;
                Check.said("sigma " + sigma + ", n " + n, "true", Boolean.toString(holds));
            }
        }
    }

    private static void aroundTheEndsOfWords() {
        Check.sentence("for each level, words of 64 bits");
        for (int size : new int[] {63, 64, 65, 127, 128, 129, 959, 960, 961, 1000}) {
            int[] symbols = IntStream.range(0, size).map(i -> i * i * 7 % 23 % 5).toArray();
            LevelRows rows = Rows.of(5, symbols);
            int lastWord = (size - 1) / 64 * 64;
            int firstEnd = Math.min(size, 64) - 1;
            for (int place : new int[] {0, 1, firstEnd, lastWord, size - 2, size - 1}) {
                aroundPlace(size + " symbols, place " + place, rows, symbols, place);
            }
        }
    }

    private static void aroundPlace(String name, LevelRows rows, int[] symbols, int place) {
        int symbol = symbols[place];
        int before = (int) IntStream.range(0, place).filter(i -> symbols[i] == symbol).count();
        Check.due(name + ", at", symbol, () -> rows.at(place));
        Check.due(name + ", rank", before, () -> rows.rank(symbol, place));
        Check.due(name + ", rank behind it", before + 1, () -> rows.rank(symbol, place + 1));
        Check.due(name + ", select", place, () -> rows.select(symbol, before));
        Check.due(name + ", between", before + 1,
                () -> rows.between(0, place + 1, symbol, symbol + 1));
        Check.due(name + ", quantile", symbol, () -> rows.quantile(place, place + 1, 0));
    }

    private static void namedFirst() {
        Check.sentence("Methods throw the one named first when several would do");
        LevelRows rows = new LevelRows(6);
        Check.thrown("no symbol, n", Check.PLACE, () -> rows.put(6 << 16, 0, 0, 0, 0, 11));
        Check.thrown("no symbol, greatest n", Check.PLACE, () -> rows.put(0, 0, 0, 0, 6, GREATEST));
        Rows.putZeros(rows, 400);
        rows.build();
        Rows.putZeros(rows, 595);
        Check.thrown("no symbol, full", Check.PLACE, () -> rows.put(0, 0, 6, 0, 0, 6));
        Check.thrown("n, full", Check.ARGUMENT, () -> rows.put(0, 0, 0, 0, 0, 11));
        Check.thrown("greatest n, full", Check.ARGUMENT, () -> rows.put(0, 0, 0, 0, 0, GREATEST));
        Check.thrown("all three", Check.PLACE, () -> rows.put(0, 6, 0, 0, 0, 11));
        Check.thrown("full alone", Check.FULL, () -> rows.put(0, 0, 0, 0, 0, 6));
        Check.thrown("the seventh is none of six", Check.FULL,
                () -> rows.put(0, 0, 0, 6 << 16, 0, 6));
        Check.due("none of them", 600, () -> rows.put(0, 0, 0, 0, 0, 5));
    }

    private static void noSuchPlace() {
        Check.sentence("there is no such place");
        for (int size : new int[] {0, 1, 63, 64, 65, 1000}) {
            LevelRows rows = Rows.of(6, new int[size]);
            for (int place : new int[] {LEAST, LEAST + 1, -65, -64, -1, size + 1, size + 64, 1024,
                GREATEST - 1, GREATEST}) {
                String name = size + " symbols, place " + place;
                Check.thrown(name + ", at", Check.PLACE, () -> rows.at(place));
                Check.thrown(name + ", rank", Check.PLACE, () -> rows.rank(0, place));
            }
            Check.thrown(size + " symbols, at the end", Check.PLACE, () -> rows.at(size));
        }
    }

    private static void noSuchSymbol() {
        Check.sentence("there is no such symbol");
        for (int sigma : new int[] {1, 2, 5, 8, 65535, 65536}) {
            LevelRows rows = Rows.of(sigma, 0, sigma - 1);
            for (int symbol : new int[] {LEAST, LEAST + 1, -65536, -1, sigma, sigma + 1, 65536,
                sigma + 65536, GREATEST}) {
                String name = "sigma " + sigma + ", symbol " + symbol;
                Check.thrown(name + ", rank", Check.PLACE, () -> rows.rank(symbol, 2));
                Check.thrown(name + ", rank at 0", Check.PLACE, () -> rows.rank(symbol, 0));
                Check.thrown(name + ", select", Check.PLACE, () -> rows.select(symbol, 0));
                Check.thrown(name + ", of none", Check.PLACE,
                        () -> new LevelRows(sigma).select(symbol, 0));
            }
        }
    }

    private static void noSuchPart() {
        Check.sentence("there is no such part (it ends before it begins, or beyond the row)");
        for (int size : new int[] {0, 1, 6, 64, 1000}) {
            int[][] parts = {
                {1, 0}, {size, size - 1}, {size, 0}, {0, -1}, {0, size + 1}, {size, size + 1},
                {size + 1, size + 1}, {size + 1, size}, {-1, 0}, {-1, size}, {-1, -1}, {-1, -2},
                {LEAST, size}, {LEAST, LEAST}, {LEAST, GREATEST}, {0, LEAST}, {0, GREATEST},
                {GREATEST, LEAST}, {GREATEST, 0}, {GREATEST, GREATEST}, {size, GREATEST}
            };
            for (int[] part : parts) {
                if (part[0] >= 0 && part[0] <= part[1] && part[1] <= size) {
                    continue;
                }
                String name = size + " symbols, " + part[0] + " .. " + part[1];
                refusedPart(name, Rows.of(6, new int[size]), part[0], part[1]);
            }
        }
    }

    private static void refusedPart(String name, LevelRows rows, int from, int to) {
        Check.thrown(name + ", quantile", Check.PLACE, () -> rows.quantile(from, to, 0));
        Check.thrown(name + ", between", Check.PLACE, () -> rows.between(from, to, 0, 6));
        Check.thrown(name + ", between none", Check.PLACE, () -> rows.between(from, to, 6, 0));
        Check.thrown(name + ", below", Check.PLACE, () -> rows.below(from, to, 6));
        Check.thrown(name + ", below none", Check.PLACE, () -> rows.below(from, to, LEAST));
        Check.thrown(name + ", above", Check.PLACE, () -> rows.above(from, to, 0));
        Check.thrown(name + ", above none", Check.PLACE, () -> rows.above(from, to, GREATEST));
        Check.thrown(name + ", different", Check.PLACE, () -> rows.different(from, to));
        Check.thrown(name + ", frequent", Check.PLACE, () -> rows.frequent(from, to, 0));
        Check.thrown(name + ", frequent none", Check.PLACE,
                () -> rows.frequent(from, to, GREATEST));
    }

    private static void changesNothing() {
        Check.sentence("A call that throws changes nothing");
        int[] some = IntStream.range(0, 130).map(i -> i * 5 % 6).toArray();
        changesNothing("empty", () -> new LevelRows(6), false);
        changesNothing("waiting", () -> waiting(new LevelRows(6), 3, 1, 4), false);
        changesNothing("built", () -> Rows.of(6, some), false);
        changesNothing("both", () -> waiting(Rows.of(6, some), some), false);
        changesNothing("1000 wait", () -> waiting(new LevelRows(6), new int[1000]), true);
        changesNothing("1000 built", () -> Rows.of(6, new int[1000]), true);
        changesNothing("1000 of both", () -> waiting(Rows.of(6, new int[870]), some), true);
    }

    private static LevelRows waiting(LevelRows rows, int... symbols) {
        Rows.put(rows, symbols);
        return rows;
    }

    private static void changesNothing(String state, Supplier<LevelRows> made, boolean full) {
        String due = seen(made.get());
        for (Refused one : refused(full)) {
            LevelRows rows = made.get();
            Check.thrown(state + ", " + one.name, one.due, () -> one.ask.of(rows));
            Check.said(state + " after " + one.name, due, seen(rows));
        }
    }

    private static List<Refused> refused(boolean full) {
        List<Refused> calls = new ArrayList<>(List.of(
                new Refused("put, first", Check.PLACE, r -> r.put(6 << 16, 0, 0, 0, 0, 1)),
                new Refused("put, tenth", Check.PLACE, r -> r.put(0, 1, 2, 3, 6, 10)),
                new Refused("put 0", Check.ARGUMENT, r -> r.put(1, 2, 3, 4, 5, 0)),
                new Refused("put -1", Check.ARGUMENT, r -> r.put(1, 2, 3, 4, 5, -1)),
                new Refused("put 11", Check.ARGUMENT, r -> r.put(1, 2, 3, 4, 5, 11)),
                new Refused("at", Check.PLACE, r -> r.at(1000)),
                new Refused("rank, symbol", Check.PLACE, r -> r.rank(6, 0)),
                new Refused("rank, place", Check.PLACE, r -> r.rank(0, 1001)),
                new Refused("select, symbol", Check.PLACE, r -> r.select(-1, 0)),
                new Refused("select, k", Check.PLACE, r -> r.select(0, -1)),
                new Refused("quantile, part", Check.PLACE, r -> r.quantile(1, 0, 0)),
                new Refused("quantile, k", Check.PLACE, r -> r.quantile(0, 0, 0)),
                new Refused("between", Check.PLACE, r -> r.between(-1, 0, 0, 6)),
                new Refused("below", Check.PLACE, r -> r.below(0, 1001, 6)),
                new Refused("above", Check.PLACE, r -> r.above(0, 1001, 0)),
                new Refused("different", Check.PLACE, r -> r.different(1, 0)),
                new Refused("frequent, part", Check.PLACE, r -> r.frequent(-1, 0, 0)),
                new Refused("frequent, k", Check.PLACE, r -> r.frequent(0, 0, -1)),
                new Refused("count", Check.PLACE, r -> r.count(4))));
        if (full) {
            calls.add(new Refused("put one", Check.FULL, r -> r.put(5 << 16, 5, 5, 5, 5, 1)));
            calls.add(new Refused("put ten", Check.FULL, r -> r.put(5 << 16, 5, 5, 5, 5, 10)));
        }
        return calls;
    }

    /** All that can be seen, before and after all is built; of long rows every seventh place. */
    private static String seen(LevelRows rows) {
        StringBuilder seen = new StringBuilder(seenOfRow(rows));
        seen.append(" build ").append(rows.build());
        return seen.append(seenOfRow(rows)).toString();
    }

    private static String seenOfRow(LevelRows rows) {
        StringBuilder seen = new StringBuilder();
        for (int what = 0; what < 4; what++) {
            seen.append(' ').append(rows.count(what));
        }
        int size = rows.count(0);
        seen.append(" bits ").append(rows.bits()).append(" row");
        for (int place = 0; place < size; place += size > 200 ? 7 : 1) {
            seen.append(' ').append(rows.at(place));
        }
        for (int symbol = 0; symbol < rows.count(3); symbol++) {
            seen.append(" rank ").append(rows.rank(symbol, size));
            seen.append(" select ").append(rows.select(symbol, 1));
        }
        return seen.append(" frequent ").append(rows.frequent(0, size, 0)).toString();
    }
}
