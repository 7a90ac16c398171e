/** Each promise with ordinary inputs, the edges that the document names, and wrong inputs. */
final class PromisesTest {
    private static final int LEAST = Integer.MIN_VALUE;
    private static final int GREATEST = Integer.MAX_VALUE;

    public static void main(String[] args) {
        newObject();
        putOrdinary();
        putWrong();
        putFull();
        build();
        at();
        rank();
        select();
        quantile();
        between();
        below();
        above();
        different();
        frequent();
        bits();
        count();
        clear();
        wrongParts();
        throwingChangesNothing();
        asInReadme();
        Check.end();
    }

    private static void newObject() {
        int[][] givenAndDue = {
            {LEAST, 1, 0}, {-1, 1, 0}, {0, 1, 0}, {1, 1, 0}, {2, 2, 1}, {3, 3, 2}, {4, 4, 2},
            {5, 5, 3}, {256, 256, 8}, {257, 257, 9}, {32768, 32768, 15}, {32769, 32769, 16},
            {65535, 65535, 16}, {65536, 65536, 16}, {65537, 65536, 16}, {GREATEST, 65536, 16}
        };
        for (int[] one : givenAndDue) {
            LevelRows rows = new LevelRows(one[0]);
            String name = "P1 sigma " + one[0];
            Check.due(name, one[1], () -> rows.count(3));
            Check.due(name + " levels", one[2], () -> rows.count(2));
            Check.due(name + " built", 0, () -> rows.count(0));
            Check.due(name + " waiting", 0, () -> rows.count(1));
        }
    }

    private static void putOrdinary() {
        LevelRows rows = new LevelRows(65536);
        Check.due("P2 one", 1, () -> rows.put(0xFFFF_8000, 0, 0, 0, 0, 1));
        Check.due("P2 ten", 11, () -> rows.put(0x0001_0002, 0x0003_0004, 0x0005_0006, 0x0007_0008,
                0x8009_FFFE, 10));
        Check.due("P2 three", 14, () -> rows.put(0x000B_000C, 0x000D_FFFF, 0, 0, 0, 3));
        rows.build();
        int[] due = {0xFFFF, 1, 2, 3, 4, 5, 6, 7, 8, 0x8009, 0xFFFE, 0xB, 0xC, 0xD};
        for (int i = 0; i < due.length; i++) {
            int place = i;
            Check.due("P2 at " + i, due[i], () -> rows.at(place));
        }
        Check.due("P2 waiting anew", 2, () -> rows.put(0, 0, 0, 0, 0, 2));
    }

    private static void putWrong() {
        LevelRows rows = new LevelRows(6);
        Check.thrown("P2 first", Check.PLACE, () -> rows.put(0x0006_0000, 0, 0, 0, 0, 1));
        Check.thrown("P2 second", Check.PLACE, () -> rows.put(0x0000_0006, 0, 0, 0, 0, 2));
        Check.thrown("P2 tenth", Check.PLACE, () -> rows.put(0, 0, 0, 0, 0x0000_0006, 10));
        Check.thrown("P2 all bits", Check.PLACE, () -> rows.put(-1, 0, 0, 0, 0, 1));
        for (int n : new int[] {LEAST, -1, 0, 11, GREATEST}) {
            Check.thrown("P2 n " + n, Check.ARGUMENT, () -> rows.put(0, 0, 0, 0, 0, n));
        }
        Check.thrown("P2 none of no symbols is wrong", Check.ARGUMENT,
                () -> rows.put(-1, -1, -1, -1, -1, 0));
        Check.thrown("P2 n below 0", Check.ARGUMENT, () -> rows.put(-1, -1, -1, -1, -1, -1));
        Check.thrown("P2 no symbol before n", Check.PLACE, () -> rows.put(0, 0, 0, 0, 6, 11));
        Check.due("P2 none waits", 0, () -> rows.count(1));
        Check.due("P2 what is not given is free", 9, () -> rows.put(0, 0, 0, 0, 0x0005_0006, 9));
    }

    private static void putFull() {
        LevelRows rows = new LevelRows(6);
        Rows.putZeros(rows, 500);
        rows.build();
        Rows.putZeros(rows, 490);
        Check.thrown("P2 no symbol before full", Check.PLACE, () -> rows.put(-1, 0, 0, 0, 0, 10));
        Check.due("P2 nine more", 499, () -> rows.put(0, 0, 0, 0, 0, 9));
        Check.thrown("P2 1001", Check.FULL, () -> rows.put(0, 0, 0, 0, 0, 2));
        Check.due("P2 1000", 500, () -> rows.put(0, 0, 0, 0, 0, 1));
        Check.thrown("P2 full", Check.FULL, () -> rows.put(0, 0, 0, 0, 0, 1));
        Check.thrown("P2 full, no symbol", Check.PLACE, () -> rows.put(6 << 16, 0, 0, 0, 0, 1));
        Check.thrown("P2 full, n", Check.ARGUMENT, () -> rows.put(0, 0, 0, 0, 0, 11));
        Check.due("P3 1000", 1000, rows::build);
        Check.thrown("P2 all built", Check.FULL, () -> rows.put(0, 0, 0, 0, 0, 1));
    }

    private static void build() {
        LevelRows rows = new LevelRows(10);
        Check.due("P3 nothing", 0, rows::build);
        rows.put(0x0009_0001, 0x0005_0000, 0, 0, 0, 3);
        Check.thrown("P3 waiting is not built", Check.PLACE, () -> rows.at(0));
        Check.due("P3 three", 3, rows::build);
        Check.due("P3 none waits", 0, () -> rows.count(1));
        Check.due("P3 again", 3, rows::build);
        rows.put(0x0002_0007, 0, 0, 0, 0, 2);
        rows.put(0x0009_0000, 0, 0, 0, 0, 1);
        Check.due("P3 the part before it is built", 1, () -> rows.rank(9, 3));
        Check.due("P3 six", 6, rows::build);
        int[] due = {9, 1, 5, 2, 7, 9};
        for (int i = 0; i < due.length; i++) {
            int place = i;
            Check.due("P3 at " + i, due[i], () -> rows.at(place));
        }
    }

    private static void at() {
        LevelRows rows = Rows.of(6, 3, 1, 4, 1, 5, 2);
        Check.due("P4 first", 3, () -> rows.at(0));
        Check.due("P4 last", 2, () -> rows.at(5));
        for (int place : new int[] {LEAST, -1, 6, 7, GREATEST}) {
            Check.thrown("P4 place " + place, Check.PLACE, () -> rows.at(place));
        }
        Check.thrown("P4 empty", Check.PLACE, () -> new LevelRows(6).at(0));
    }

    private static void rank() {
        LevelRows rows = Rows.of(6, 3, 1, 4, 1, 5, 1);
        Check.due("P5 start", 0, () -> rows.rank(3, 0));
        Check.due("P5 without the place", 1, () -> rows.rank(1, 3));
        Check.due("P5 end", 3, () -> rows.rank(1, 6));
        Check.due("P5 never", 0, () -> rows.rank(0, 6));
        Check.due("P5 empty", 0, () -> new LevelRows(6).rank(5, 0));
        for (int wrong : new int[] {LEAST, -1, 7, GREATEST}) {
            Check.thrown("P5 place " + wrong, Check.PLACE, () -> rows.rank(1, wrong));
            Check.thrown("P5 symbol " + wrong, Check.PLACE, () -> rows.rank(wrong, 0));
        }
        // 6 needs no more bits than 5, yet it is no symbol.
        Check.thrown("P5 symbol 6", Check.PLACE, () -> rows.rank(6, 0));
    }

    private static void select() {
        LevelRows rows = Rows.of(6, 3, 1, 4, 1, 5, 1);
        Check.due("P6 first", 1, () -> rows.select(1, 0));
        Check.due("P6 last", 5, () -> rows.select(1, 2));
        Check.due("P6 not so often", -1, () -> rows.select(1, 3));
        Check.due("P6 greatest k", -1, () -> rows.select(1, GREATEST));
        Check.due("P6 never", -1, () -> rows.select(0, 0));
        Check.due("P6 empty", -1, () -> new LevelRows(6).select(0, 0));
        Check.thrown("P6 k", Check.PLACE, () -> rows.select(1, -1));
        Check.thrown("P6 least k", Check.PLACE, () -> rows.select(1, LEAST));
        for (int symbol : new int[] {LEAST, -1, 6, GREATEST}) {
            Check.thrown("P6 symbol " + symbol, Check.PLACE, () -> rows.select(symbol, 0));
        }
    }

    private static void quantile() {
        LevelRows rows = Rows.of(6, 3, 1, 4, 1, 5, 2);
        int[] due = {1, 1, 2, 3, 4, 5};
        for (int i = 0; i < due.length; i++) {
            int k = i;
            Check.due("P7 k " + k, due[k], () -> rows.quantile(0, 6, k));
        }
        Check.due("P7 part", 4, () -> rows.quantile(1, 4, 2));
        Check.due("P7 one place", 5, () -> rows.quantile(4, 5, 0));
        for (int k : new int[] {LEAST, -1, 3, GREATEST}) {
            Check.thrown("P7 k " + k, Check.PLACE, () -> rows.quantile(1, 4, k));
        }
        Check.thrown("P7 empty part", Check.PLACE, () -> rows.quantile(2, 2, 0));
    }

    private static void between() {
        LevelRows rows = Rows.of(6, 3, 1, 4, 1, 5, 2);
        Check.due("P8 from low on", 3, () -> rows.between(0, 6, 1, 3));
        Check.due("P8 below high", 2, () -> rows.between(0, 6, 3, 5));
        Check.due("P8 part", 1, () -> rows.between(2, 4, 2, 6));
        Check.due("P8 all", 6, () -> rows.between(0, 6, LEAST, GREATEST));
        Check.due("P8 turned", 0, () -> rows.between(0, 6, 5, 1));
        Check.due("P8 turned far", 0, () -> rows.between(0, 6, GREATEST, LEAST));
        Check.due("P8 nothing between", 0, () -> rows.between(0, 6, 1, 1));
        Check.due("P8 beyond", 0, () -> rows.between(0, 6, 6, 9));
        Check.due("P8 beyond the bits", 1, () -> rows.between(0, 6, 5, 8));
        Check.due("P8 before", 0, () -> rows.between(0, 6, -9, 0));
        Check.due("P8 empty part at the end", 0, () -> rows.between(6, 6, 0, 6));
    }

    private static void below() {
        LevelRows rows = Rows.of(6, 3, 1, 4, 1, 5, 2);
        Check.due("P9 below itself", 3, () -> rows.below(0, 6, 4));
        Check.due("P9 part", 1, () -> rows.below(1, 4, 4));
        Check.due("P9 greatest", 5, () -> rows.below(0, 6, GREATEST));
        Check.due("P9 just beyond", 5, () -> rows.below(0, 6, 6));
        Check.due("P9 none", -1, () -> rows.below(0, 6, 1));
        Check.due("P9 least", -1, () -> rows.below(0, 6, LEAST));
        Check.due("P9 empty part", -1, () -> rows.below(3, 3, 6));
    }

    private static void above() {
        LevelRows rows = Rows.of(6, 3, 1, 4, 1, 5, 2);
        Check.due("P10 itself", 4, () -> rows.above(0, 6, 4));
        Check.due("P10 next", 3, () -> rows.above(0, 3, 2));
        Check.due("P10 least", 1, () -> rows.above(0, 6, LEAST));
        Check.due("P10 zero", 1, () -> rows.above(0, 6, 0));
        Check.due("P10 none", -1, () -> rows.above(0, 4, 5));
        Check.due("P10 beyond", -1, () -> rows.above(0, 6, 6));
        Check.due("P10 greatest", -1, () -> rows.above(0, 6, GREATEST));
        Check.due("P10 empty part", -1, () -> rows.above(3, 3, 0));
    }

    private static void different() {
        LevelRows rows = Rows.of(6, 3, 1, 4, 1, 5, 1);
        Check.due("P11 all", 4, () -> rows.different(0, 6));
        Check.due("P11 part", 2, () -> rows.different(1, 4));
        Check.due("P11 empty part", 0, () -> rows.different(6, 6));
        LevelRows wide = new LevelRows(65536);
        for (int i = 0; i < 1000; i += 2) {
            wide.put(i * 65 << 16 | (i + 1) * 65, 0, 0, 0, 0, 2);
        }
        wide.build();
        Check.due("P11 1000", 1000, () -> wide.different(0, 1000));
        Check.due("P12 1000", 999 * 65, () -> wide.frequent(0, 1000, 999));
        Check.due("P12 not 1001", -1, () -> wide.frequent(0, 1000, 1000));
    }

    private static void frequent() {
        LevelRows rows = Rows.of(6, 4, 1, 4, 1, 5, 2, 2, 4, 0);
        int[] due = {4, 1, 2, 0, 5, -1};
        for (int i = 0; i < due.length; i++) {
            int k = i;
            Check.due("P12 k " + k, due[k], () -> rows.frequent(0, 9, k));
        }
        Check.due("P12 part", 2, () -> rows.frequent(4, 8, 0));
        Check.due("P12 lesser first", 1, () -> rows.frequent(0, 2, 0));
        Check.due("P12 greatest k", -1, () -> rows.frequent(0, 9, GREATEST));
        Check.due("P12 empty part", -1, () -> rows.frequent(9, 9, 0));
        Check.thrown("P12 k below 0", Check.PLACE, () -> rows.frequent(0, 9, -1));
        Check.thrown("P12 least k", Check.PLACE, () -> rows.frequent(0, 9, LEAST));
        Check.thrown("P12 empty part, k below 0", Check.PLACE, () -> rows.frequent(9, 9, -1));
        LevelRows same = new LevelRows(65536);
        Rows.putZeros(same, 1000);
        same.build();
        Check.due("P12 1000 times", 0, () -> same.frequent(0, 1000, 0));
        Check.due("P12 one alone", -1, () -> same.frequent(0, 1000, 1));
    }

    private static void bits() {
        LevelRows rows = new LevelRows(5);
        Check.due("P13 empty", 3 * 32, rows::bits);
        Rows.putZeros(rows, 1);
        Check.due("P13 waiting", 3 * 32, rows::bits);
        int[] sizes = {1, 63, 64, 65, 127, 128, 129, 960, 961, 1000};
        int[] words = {1, 1, 1, 2, 2, 2, 3, 15, 16, 16};
        for (int i = 0; i < sizes.length; i++) {
            Rows.putZeros(rows, sizes[i] - rows.count(0) - rows.count(1));
            rows.build();
            Check.due("P13 " + sizes[i], 3 * (words[i] * 80 + 32), rows::bits);
        }
        LevelRows one = Rows.of(1, 0, 0, 0);
        Check.due("P13 no level", 0, one::bits);
    }

    private static void count() {
        LevelRows rows = Rows.of(6, 3, 1, 4);
        rows.put(0, 0, 0, 0, 0, 2);
        int[] due = {3, 2, 3, 6};
        for (int i = 0; i < due.length; i++) {
            int what = i;
            Check.due("P14 what " + what, due[what], () -> rows.count(what));
        }
        for (int what : new int[] {LEAST, -1, 4, GREATEST}) {
            Check.thrown("P14 what " + what, Check.PLACE, () -> rows.count(what));
        }
    }

    private static void clear() {
        LevelRows rows = Rows.of(6, 5, 5, 5, 5);
        rows.put(0x0004_0003, 0, 0, 0, 0, 2);
        rows.clear();
        Check.due("P15 built", 0, () -> rows.count(0));
        Check.due("P15 waiting", 0, () -> rows.count(1));
        Check.due("P15 levels", 3, () -> rows.count(2));
        Check.due("P15 sigma", 6, () -> rows.count(3));
        Check.due("P15 bits", 96, rows::bits);
        Check.due("P15 nothing to build", 0, rows::build);
        Check.due("P15 rank", 0, () -> rows.rank(5, 0));
        Check.due("P15 select", -1, () -> rows.select(5, 0));
        Check.due("P15 different", 0, () -> rows.different(0, 0));
        Check.thrown("P15 at", Check.PLACE, () -> rows.at(0));
        rows.put(0x0001_0002, 0, 0, 0, 0, 2);
        Check.due("P15 anew", 2, rows::build);
        Check.due("P15 first", 1, () -> rows.at(0));
        Check.due("P15 none is left over", 0, () -> rows.rank(5, 2));
        rows.clear();
        Rows.putZeros(rows, 1000);
        Check.due("P15 room for all", 1000, rows::build);
    }

    private static void wrongParts() {
        LevelRows rows = Rows.of(6, 3, 1, 4, 1, 5, 2);
        int[][] parts = {
            {-1, 3}, {3, 2}, {0, 7}, {7, 7}, {-1, -1}, {LEAST, GREATEST}, {GREATEST, LEAST},
            {0, LEAST}, {LEAST, 0}, {6, GREATEST}, {LEAST, LEAST}, {GREATEST, GREATEST}
        };
        for (int[] part : parts) {
            int from = part[0];
            int to = part[1];
            String name = " " + from + " .. " + to;
            Check.thrown("P7" + name, Check.PLACE, () -> rows.quantile(from, to, 0));
            Check.thrown("P8" + name, Check.PLACE, () -> rows.between(from, to, 0, 6));
            Check.thrown("P8 turned" + name, Check.PLACE, () -> rows.between(from, to, 6, 0));
            Check.thrown("P9" + name, Check.PLACE, () -> rows.below(from, to, 6));
            Check.thrown("P10" + name, Check.PLACE, () -> rows.above(from, to, 0));
            Check.thrown("P11" + name, Check.PLACE, () -> rows.different(from, to));
            Check.thrown("P12" + name, Check.PLACE, () -> rows.frequent(from, to, 0));
        }
    }

    private static void throwingChangesNothing() {
        LevelRows rows = Rows.of(6, 3, 1, 4);
        rows.put(0x0002_0000, 0, 0, 0, 0, 1);
        Check.outcome(() -> rows.put(0x0005_0005, 0x0005_0006, 0, 0, 0, 4));
        Check.outcome(() -> rows.put(0x0005_0005, 0, 0, 0, 0, 11));
        Check.outcome(() -> rows.quantile(0, 3, 3));
        Check.outcome(() -> rows.select(6, 0));
        Check.due("built", 3, () -> rows.count(0));
        Check.due("waiting", 1, () -> rows.count(1));
        rows.put(0x0001_0000, 0, 0, 0, 0, 1);
        Check.due("all five", 5, rows::build);
        Check.due("the fourth", 2, () -> rows.at(3));
        Check.due("the fifth", 1, () -> rows.at(4));
    }

    /** The lines of README.md answer what it says. */
    private static void asInReadme() {
        LevelRows rows = new LevelRows(6);
        Check.due("README put", 4, () -> rows.put(0x0003_0001, 0x0004_0001, 0, 0, 0, 4));
        Check.due("README build", 4, rows::build);
        Check.due("README at", 4, () -> rows.at(2));
        Check.due("README rank", 1, () -> rows.rank(1, 3));
        Check.due("README select", 3, () -> rows.select(1, 1));
        Check.due("README quantile", 3, () -> rows.quantile(0, 4, 2));
        Check.due("README between", 3, () -> rows.between(0, 4, 1, 4));
        Check.due("README below", 1, () -> rows.below(0, 4, 3));
        Check.due("README above", 3, () -> rows.above(0, 4, 2));
        Check.due("README different", 3, () -> rows.different(0, 4));
        Check.due("README frequent", 1, () -> rows.frequent(0, 4, 0));
        Check.due("README select none", LevelRows.NONE, () -> rows.select(0, 0));
        Check.due("README bits", 336, rows::bits);
        Check.due("README count", 3, () -> rows.count(2));
        rows.clear();
        Check.due("README clear", 0, () -> rows.count(0));
        Check.thrown("README at of an empty row", Check.PLACE, () -> rows.at(0));
    }
}
