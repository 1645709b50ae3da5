import java.math.BigInteger;
import java.util.ArrayList;
import java.util.Arrays;
import java.util.Comparator;
import java.util.LinkedHashMap;
import java.util.List;
import java.util.Map;
import java.util.TreeMap;
import java.util.TreeSet;

/** The document taken word by word, key by key, with no thought for speed: what answers are held against. */
final class NaiveSketches {
    static final long NONE = -1;
    static final long MOST = 1_000_000_000_000_000L;

    final int p;
    final int width;
    final int rows;
    final int counters;
    final int[] as;
    final int[] bs;
    final Stream[] streams = new Stream[4];
    List<long[]> kept = new ArrayList<>();

    NaiveSketches(int prime, int width, int rows, int counters) {
        int number = Math.max(2, Math.min(65521, prime));
        while (!BigInteger.valueOf(number).isProbablePrime(60)) {
            number++;
        }
        this.p = number;
        this.width = Math.max(1, Math.min(256, width));
        this.rows = Math.max(1, Math.min(8, rows));
        this.counters = Math.max(1, Math.min(64, counters));
        this.as = new int[this.rows];
        this.bs = new int[this.rows];
        for (int i = 0; i < this.rows; i++) {
            as[i] = 1 + (7919 * i + 13) % (p - 1);
            bs[i] = (104729 * i + 5) % p;
        }
        for (int i = 0; i < 4; i++) {
            streams[i] = new Stream();
        }
    }

    final class Stream {
        long n = 0;
        long[][] plain = new long[rows][width];
        long[][] careful = new long[rows][width];
        LinkedHashMap<Integer, Long> misra = new LinkedHashMap<>();
        long taken = 0;
        ArrayList<long[]> saving = new ArrayList<>();
        TreeMap<Integer, Long> counts = new TreeMap<>();

        Stream twin() {
            Stream t = new Stream();
            t.n = n;
            for (int i = 0; i < rows; i++) {
                t.plain[i] = plain[i].clone();
                t.careful[i] = careful[i].clone();
            }
            t.misra = new LinkedHashMap<>(misra);
            t.taken = taken;
            for (long[] c : saving) {
                t.saving.add(c.clone());
            }
            t.counts = counts == null ? null : new TreeMap<>(counts);
            return t;
        }

        void come(int key) {
            n++;
            long m = leastCell(careful, key) + 1;
            for (int i = 0; i < rows; i++) {
                int h = hashOf(as[i], bs[i], key);
                plain[i][h]++;
                if (careful[i][h] < m) {
                    careful[i][h] = m;
                }
            }
            comeToMisra(key);
            comeToSaving(key);
            if (counts != null) {
                counts.merge(key, 1L, Long::sum);
                if (counts.size() > 300) {
                    counts = null;
                }
            }
        }

        void comeToMisra(int key) {
            if (misra.containsKey(key)) {
                misra.put(key, misra.get(key) + 1);
            } else if (misra.size() < counters) {
                misra.put(key, 1L);
            } else {
                misra.replaceAll((k, v) -> v - 1);
                misra.values().removeIf(v -> v == 0);
                taken++;
            }
        }

        void comeToSaving(int key) {
            long[] mine = saved(key);
            if (mine == null) {
                if (saving.size() < counters) {
                    mine = new long[] {key, 0, 0};
                } else {
                    long[] first = saving.remove(0);
                    mine = new long[] {key, first[1], first[1]};
                }
            } else {
                saving.remove(mine);
            }
            mine[1]++;
            int at = 0;
            while (at < saving.size() && saving.get(at)[1] <= mine[1]) {
                at++;
            }
            saving.add(at, mine);
        }

        long[] saved(int key) {
            for (long[] c : saving) {
                if (c[0] == key) {
                    return c;
                }
            }
            return null;
        }

        long least() {
            return saving.size() == counters ? saving.get(0)[1] : 0;
        }

        long leastCell(long[][] cells, int key) {
            long least = Long.MAX_VALUE;
            for (int i = 0; i < rows; i++) {
                least = Math.min(least, cells[i][hashOf(as[i], bs[i], key)]);
            }
            return least;
        }

        long side(int sketch, int key, int side) {
            long[] mine = saved(key);
            switch (sketch) {
                case 0: return side == 1 ? 0 : leastCell(plain, key);
                case 1: return side == 1 ? 0 : leastCell(careful, key);
                case 2: return misra.getOrDefault(key, 0L) + (side == 2 ? taken : 0);
                case 3:
                    if (side == 1) {
                        return mine == null ? 0 : mine[1] - mine[2];
                    }
                    return mine == null ? least() : mine[1];
                default:
                    long low = 0;
                    long high = Long.MAX_VALUE;
                    for (int s = 0; s < 4; s++) {
                        low = Math.max(low, side(s, key, 1));
                        high = Math.min(high, side(s, key, 2));
                    }
                    return side == 1 ? low : side == 2 ? high : (low + high) / 2;
            }
        }

        void putWith(Stream o) {
            joinSaving(o);
            n += o.n;
            for (int i = 0; i < rows; i++) {
                for (int j = 0; j < width; j++) {
                    plain[i][j] += o.plain[i][j];
                    careful[i][j] += o.careful[i][j];
                }
            }
            joinMisra(o);
            if (counts != null && o.counts != null) {
                o.counts.forEach((k, v) -> counts.merge(k, v, Long::sum));
                if (counts.size() > 300) {
                    counts = null;
                }
            } else {
                counts = null;
            }
        }

        void joinMisra(Stream o) {
            o.misra.forEach((k, v) -> misra.merge(k, v, Long::sum));
            taken += o.taken;
            if (misra.size() > counters) {
                List<Long> numbers = new ArrayList<>(misra.values());
                numbers.sort(Comparator.reverseOrder());
                long cut = numbers.get(counters);
                misra.replaceAll((k, v) -> v - cut);
                misra.values().removeIf(v -> v <= 0);
                taken += cut;
            }
        }

        void joinSaving(Stream o) {
            TreeSet<Integer> keys = new TreeSet<>();
            for (long[] c : saving) {
                keys.add((int) c[0]);
            }
            for (long[] c : o.saving) {
                keys.add((int) c[0]);
            }
            List<long[]> all = new ArrayList<>();
            for (int key : keys) {
                long[] a = saved(key);
                long[] b = o.saved(key);
                long[] x = a == null ? new long[] {key, least(), least()} : a;
                long[] y = b == null ? new long[] {key, o.least(), o.least()} : b;
                all.add(new long[] {key, x[1] + y[1], x[2] + y[2]});
            }
            // The keys come in their order, and the sort keeps that among like numbers.
            all.sort((a, b) -> Long.compare(b[1], a[1]));
            ArrayList<long[]> stay = new ArrayList<>(all.subList(0, Math.min(counters, all.size())));
            stay.sort((a, b) -> a[1] != b[1] ? Long.compare(a[1], b[1]) : Long.compare(a[0], b[0]));
            saving = stay;
        }
    }

    int hashOf(int a, int b, int key) {
        return (int) (((long) a * key + b) % p % width);
    }

    boolean isStream(int s) {
        return s >= 0 && s <= 3;
    }

    boolean isKey(int k) {
        return k >= 0 && k <= p - 1;
    }

    long size(int what) {
        return what < 0 || what > 3 ? NONE : new int[] {p, width, rows, counters}[what];
    }

    boolean pair(int row, int a, int b) {
        if (row < 0 || row >= rows || a < 1 || a > p - 1 || b < 0 || b > p - 1) {
            return false;
        }
        if (Arrays.stream(streams).anyMatch(s -> s.n > 0)) {
            return false;
        }
        as[row] = a;
        bs[row] = b;
        return true;
    }

    long hash(int row, int key) {
        return row < 0 || row >= rows || !isKey(key) ? NONE : hashOf(as[row], bs[row], key);
    }

    long add(int s, int key, int times) {
        if (!isStream(s) || !isKey(key) || times < 1 || times > 1000 || streams[s].n + times > MOST) {
            return NONE;
        }
        for (int i = 0; i < times; i++) {
            streams[s].come(key);
        }
        return streams[s].n;
    }

    boolean clear(int s) {
        if (!isStream(s)) {
            return false;
        }
        streams[s] = new Stream();
        return true;
    }

    boolean copy(int to, int from) {
        if (!isStream(to) || !isStream(from)) {
            return false;
        }
        streams[to] = streams[from].twin();
        return true;
    }

    long join(int to, int from) {
        if (!isStream(to) || !isStream(from) || streams[to].n + streams[from].n > MOST) {
            return NONE;
        }
        streams[to].putWith(streams[from].twin());
        return streams[to].n;
    }

    long total(int s) {
        return isStream(s) ? streams[s].n : NONE;
    }

    long estimate(int s, int sketch, int key, int side) {
        if (!isStream(s) || sketch < 0 || sketch > 4 || !isKey(key) || side < 0 || side > 2) {
            return NONE;
        }
        return streams[s].side(sketch, key, side);
    }

    long count(int s, int key) {
        return !isStream(s) || !isKey(key) || streams[s].counts == null
            ? NONE : streams[s].counts.getOrDefault(key, 0L);
    }

    long cell(int s, int sketch, int row, int column) {
        if (!isStream(s) || sketch < 0 || sketch > 1 || row < 0 || row >= rows || column < 0 || column >= width) {
            return NONE;
        }
        return (sketch == 0 ? streams[s].plain : streams[s].careful)[row][column];
    }

    long counter(int s, int sketch, int i, int what) {
        if (!isStream(s) || sketch < 2 || sketch > 3 || i < 0 || what < 0 || what > 2) {
            return NONE;
        }
        if (sketch == 3) {
            return i < streams[s].saving.size() ? streams[s].saving.get(i)[what] : NONE;
        }
        if (i >= streams[s].misra.size()) {
            return NONE;
        }
        Map.Entry<Integer, Long> e = new ArrayList<>(streams[s].misra.entrySet()).get(i);
        return what == 0 ? e.getKey() : what == 1 ? e.getValue() : 0;
    }

    long state(int s, int what) {
        if (!isStream(s) || what < 0 || what > 4) {
            return NONE;
        }
        Stream t = streams[s];
        return new long[] {t.misra.size(), t.taken, t.saving.size(), t.least(),
            t.counts == null ? NONE : t.counts.size()}[what];
    }

    long report(int s, int sketch, int parts, boolean sure) {
        if (!isStream(s) || sketch < 0 || sketch > 4 || parts < 1 || parts > 100000) {
            return NONE;
        }
        List<long[]> found = new ArrayList<>();
        BigInteger n = BigInteger.valueOf(streams[s].n);
        for (int key = 0; key < p; key++) {
            long number = streams[s].side(sketch, key, sure ? 1 : 2);
            if (BigInteger.valueOf(number).multiply(BigInteger.valueOf(parts)).compareTo(n) > 0) {
                found.add(new long[] {key, number});
            }
        }
        found.sort((a, b) -> a[1] != b[1] ? Long.compare(b[1], a[1]) : Long.compare(a[0], b[0]));
        kept = found.subList(0, Math.min(300, found.size()));
        return found.size();
    }

    long reported(int i, int what) {
        return i < 0 || i >= kept.size() || what < 0 || what > 1 ? NONE : kept.get(i)[what];
    }

    long overcounts(int s, int key) {
        if (!isStream(s) || !isKey(key) || p > 131 || streams[s].n > 100_000_000_000_000L
            || streams[s].counts == null) {
            return NONE;
        }
        long sum = 0;
        for (int a = 1; a < p; a++) {
            for (int b = 0; b < p; b++) {
                int mine = (a * key + b) % p % width;
                for (Map.Entry<Integer, Long> e : streams[s].counts.entrySet()) {
                    if (e.getKey() != key && (a * e.getKey() + b) % p % width == mine) {
                        sum += e.getValue();
                    }
                }
            }
        }
        return sum;
    }

    long audit(int s) {
        if (!isStream(s) || streams[s].counts == null) {
            return NONE;
        }
        Stream t = streams[s];
        for (int sketch = 0; sketch < 4; sketch++) {
            for (Map.Entry<Integer, Long> e : t.counts.entrySet()) {
                if (t.side(sketch, e.getKey(), 1) > e.getValue() || t.side(sketch, e.getKey(), 2) < e.getValue()) {
                    return sketch + 1;
                }
            }
        }
        for (int key : t.counts.keySet()) {
            if (t.side(1, key, 0) > t.side(0, key, 0)) {
                return 5;
            }
        }
        if ((counters + 1) * t.taken > t.n) {
            return 6;
        }
        return t.counts.values().stream().mapToLong(Long::longValue).sum() == t.n ? 0 : 7;
    }
}
