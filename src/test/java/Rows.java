/** Makes rows for the tests. */
final class Rows {
    private Rows() {
    }

    /** A built row. */
    static LevelRows of(int sigma, int... symbols) {
        LevelRows rows = new LevelRows(sigma);
        put(rows, symbols);
        rows.build();
        return rows;
    }

    /** Symbols that wait, ten in a call as long as there are so many. */
    static void put(LevelRows rows, int... symbols) {
        for (int first = 0; first < symbols.length; first += 10) {
            int n = Math.min(10, symbols.length - first);
            int[] five = new int[5];
            for (int i = 0; i < n; i++) {
                five[i / 2] |= symbols[first + i] << (i % 2 == 0 ? 16 : 0);
            }
            rows.put(five[0], five[1], five[2], five[3], five[4], n);
        }
    }

    /** Zeros that wait. */
    static void putZeros(LevelRows rows, int zeros) {
        put(rows, new int[zeros]);
    }
}
