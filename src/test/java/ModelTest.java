import java.util.Random;

/** Long runs of calls, drawn from written seeds, against the plain lists of PlainRow. */
final class ModelTest {
    private static final int[] SIGMAS = {
        Integer.MIN_VALUE, -1, 0, 1, 2, 3, 4, 5, 7, 8, 9, 100, 255, 256, 257, 1000, 4096, 4097,
        32768, 32769, 65535, 65536, 65537, Integer.MAX_VALUE
    };
    private static final int[] FAR = {
        Integer.MIN_VALUE, Integer.MIN_VALUE + 1, -65536, -2, -1, 65535, 65536, 65537,
        Integer.MAX_VALUE - 1, Integer.MAX_VALUE
    };
    private static final int RUNS_OF_A_SIGMA = 12;
    private static final int MOST_CALLS = 512;

    private final Random random;
    private final int sigma;
    private final LevelRows rows;
    private final PlainRow plain;
    // How many different symbols are put: few of a large sigma make them stand often.
    private final int used;

    private ModelTest(int given, long seed) {
        random = new Random(seed);
        rows = new LevelRows(given);
        plain = new PlainRow(given);
        sigma = plain.count(3);
        used = random.nextBoolean() ? sigma : 1 + random.nextInt(Math.min(sigma, 12));
    }

    public static void main(String[] args) {
        for (int given : SIGMAS) {
            for (int seed = 0; seed < RUNS_OF_A_SIGMA; seed++) {
                new ModelTest(given, seed).run("sigma " + given + ", seed " + seed + ", ");
            }
        }
        Check.end();
    }

    private void run(String name) {
        // Some runs fill the row first, the others change it and ask by turns.
        int fill = random.nextInt(3) == 0 ? 0 : random.nextInt(110);
        for (int call = 0; call < MOST_CALLS; call++) {
            int kind = call < fill ? 0 : call == fill ? 1 : 1 + random.nextInt(60);
            if (call > fill && random.nextInt(8) == 0) {
                kind = 0;
            }
            one(name + "call " + call + " ", kind);
        }
    }

    private void one(String name, int kind) {
        if (kind == 0) {
            put(name);
        } else if (kind <= 3) {
            same(name + "build", rows::build, plain::build);
        } else if (kind == 4 && random.nextInt(6) == 0) {
            rows.clear();
            plain.clear();
        } else if (kind < 8) {
            int what = random.nextInt(6) - 1;
            same(name + "count " + what, () -> rows.count(what), () -> plain.count(what));
        } else if (kind < 10) {
            same(name + "bits", rows::bits, plain::bits);
        } else if (kind < 30) {
            ofRow(name, kind);
        } else {
            ofPart(name, kind);
        }
    }

    private void put(String name) {
        int[] five = new int[5];
        for (int i = 0; i < 5; i++) {
            five[i] = symbol() << 16 | symbol() & 0xFFFF;
        }
        int n = random.nextInt(20) == 0 ? number() : 10 - random.nextInt(random.nextInt(4) + 1);
        same(name + "put " + n,
                () -> rows.put(five[0], five[1], five[2], five[3], five[4], n),
                () -> plain.put(five[0], five[1], five[2], five[3], five[4], n));
    }

    private void ofRow(String name, int kind) {
        int place = number();
        int symbol = random.nextInt(30) == 0 ? number() : symbol();
        if (kind < 16) {
            same(name + "at " + place, () -> rows.at(place), () -> plain.at(place));
        } else if (kind < 23) {
            same(name + "rank " + symbol + " " + place,
                    () -> rows.rank(symbol, place), () -> plain.rank(symbol, place));
        } else {
            int k = random.nextInt(3) == 0 ? place : random.nextInt(4);
            same(name + "select " + symbol + " " + k,
                    () -> rows.select(symbol, k), () -> plain.select(symbol, k));
        }
    }

    private void ofPart(String name, int kind) {
        int one = number();
        int other = number();
        boolean turned = random.nextInt(20) == 0;
        int from = turned ? Math.max(one, other) : Math.min(one, other);
        int to = turned ? Math.min(one, other) : Math.max(one, other);
        int k = random.nextInt(3) == 0 ? random.nextInt(4) : number();
        int v = random.nextInt(8) == 0 ? number() : symbol() + random.nextInt(2);
        int w = random.nextInt(8) == 0 ? number() : symbol() + random.nextInt(2);
        String part = from + " " + to + " ";
        if (kind < 35) {
            same(name + "quantile " + part + k,
                    () -> rows.quantile(from, to, k), () -> plain.quantile(from, to, k));
        } else if (kind < 40) {
            same(name + "between " + part + v + " " + w,
                    () -> rows.between(from, to, v, w), () -> plain.between(from, to, v, w));
        } else if (kind < 45) {
            same(name + "below " + part + v,
                    () -> rows.below(from, to, v), () -> plain.below(from, to, v));
        } else if (kind < 50) {
            same(name + "above " + part + v,
                    () -> rows.above(from, to, v), () -> plain.above(from, to, v));
        } else if (kind < 55) {
            same(name + "different " + part,
                    () -> rows.different(from, to), () -> plain.different(from, to));
        } else {
            same(name + "frequent " + part + k,
                    () -> rows.frequent(from, to, k), () -> plain.frequent(from, to, k));
        }
    }

    private static void same(String what, Check.Call got, Check.Call want) {
        Check.said(what, Check.outcome(want), Check.outcome(got));
    }

    /** Mostly a symbol, now and then the first number that is none. */
    private int symbol() {
        boolean none = random.nextInt(150) == 0;
        return none ? sigma : (int) ((long) random.nextInt(used) * sigma / used);
    }

    /** Mostly a place of the row or its end, often beside a word's end, seldom far away. */
    private int number() {
        int size = plain.count(0);
        int draw = random.nextInt(40);
        if (draw == 0) {
            return FAR[random.nextInt(FAR.length)];
        }
        if (draw == 1) {
            return size + 1;
        }
        if (draw < 8) {
            return Math.min(size, random.nextInt(17) * 64 + random.nextInt(3) - 1);
        }
        return draw < 12 ? size : random.nextInt(size + 1);
    }
}
