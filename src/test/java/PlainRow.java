import java.util.ArrayList;
import java.util.Comparator;
import java.util.List;
import java.util.TreeMap;
import java.util.stream.Collectors;
import java.util.stream.IntStream;

/** What the document says, with plain lists: the answers that LevelRows has to give. */
final class PlainRow {
    private final int sigma;
    private final List<Integer> row = new ArrayList<>();
    private final List<Integer> waiting = new ArrayList<>();

    PlainRow(int sigma) {
        this.sigma = sigma < 1 ? 1 : sigma > 65536 ? 65536 : sigma;
    }

    int put(int a, int b, int c, int d, int e, int n) {
        List<Integer> ten = new ArrayList<>();
        for (int pair : new int[] {a, b, c, d, e}) {
            ten.add(pair >>> 16);
            ten.add(pair & 0xFFFF);
        }
        List<Integer> given = ten.subList(0, Math.max(0, Math.min(10, n)));
        place(given.stream().allMatch(symbol -> symbol < sigma));
        if (n < 1 || n > 10) {
            throw new IllegalArgumentException();
        }
        if (row.size() + waiting.size() + n > 1000) {
            throw new UnsupportedOperationException();
        }
        waiting.addAll(given);
        return waiting.size();
    }

    int build() {
        row.addAll(waiting);
        waiting.clear();
        return row.size();
    }

    int at(int place) {
        place(place >= 0 && place < row.size());
        return row.get(place);
    }

    int rank(int symbol, int place) {
        place(symbol >= 0 && symbol < sigma && place >= 0 && place <= row.size());
        return (int) row.subList(0, place).stream().filter(s -> s == symbol).count();
    }

    int select(int symbol, int k) {
        place(symbol >= 0 && symbol < sigma && k >= 0);
        return IntStream.range(0, row.size()).filter(i -> row.get(i) == symbol)
                .skip(k).findFirst().orElse(-1);
    }

    int quantile(int from, int to, int k) {
        List<Integer> part = part(from, to);
        place(k >= 0 && k < part.size());
        return part.stream().sorted().skip(k).findFirst().orElseThrow();
    }

    int between(int from, int to, int low, int high) {
        return (int) part(from, to).stream().filter(s -> s >= low && s < high).count();
    }

    int below(int from, int to, int v) {
        return part(from, to).stream().filter(s -> s < v).mapToInt(s -> s).max().orElse(-1);
    }

    int above(int from, int to, int v) {
        return part(from, to).stream().filter(s -> s >= v).mapToInt(s -> s).min().orElse(-1);
    }

    int different(int from, int to) {
        return (int) part(from, to).stream().distinct().count();
    }

    int frequent(int from, int to, int k) {
        List<Integer> part = part(from, to);
        place(k >= 0);
        TreeMap<Integer, Long> times = part.stream()
                .collect(Collectors.groupingBy(s -> s, TreeMap::new, Collectors.counting()));
        List<Integer> order = new ArrayList<>(times.keySet());
        order.sort(Comparator.comparing((Integer s) -> -times.get(s)).thenComparing(s -> s));
        return k < order.size() ? order.get(k) : -1;
    }

    int bits() {
        int words = 0;
        while (words * 64 < row.size()) {
            words++;
        }
        return levels() * (words * (64 + 16) + 32);
    }

    int count(int what) {
        place(what >= 0 && what <= 3);
        return new int[] {row.size(), waiting.size(), levels(), sigma}[what];
    }

    void clear() {
        row.clear();
        waiting.clear();
    }

    private int levels() {
        return sigma == 1 ? 0 : Integer.toBinaryString(sigma - 1).length();
    }

    private List<Integer> part(int from, int to) {
        place(from >= 0 && from <= to && to <= row.size());
        return row.subList(from, to);
    }

    private static void place(boolean there) {
        if (!there) {
            throw new IndexOutOfBoundsException();
        }
    }
}
