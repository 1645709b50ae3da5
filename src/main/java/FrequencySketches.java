import java.util.Arrays;

/**
 * Four sketches of how often keys came in a stream, side by side, with what each is sure of.
 *
 * All rows are made in the constructor; no call makes an object.
 */
public final class FrequencySketches {
    public static final int NONE = -1;

    private static final int STREAMS = 4;
    private static final int SKETCHES = 5;

    private static final int LEAST_PRIME = 2;
    private static final int GREATEST_PRIME = 65521;
    private static final int MOST_WIDTH = 256;
    private static final int MOST_ROWS = 8;
    private static final int MOST_COUNTERS = 64;

    private static final int MOST_TIMES = 1000;
    private static final long MOST_TOTAL = 1000000000000000L;
    private static final int MOST_COUNTED = 300;
    private static final int MOST_KEPT = 300;
    private static final int MOST_PARTS = 100000;
    private static final int OVERCOUNTS_PRIME = 131;
    private static final long OVERCOUNTS_TOTAL = 100000000000000L;

    private static final int PLAIN = 0;
    private static final int CAREFUL = 1;
    private static final int MISRA = 2;
    private static final int SAVING = 3;
    private static final int BEST = 4;

    private final Family family;
    private final int counters;
    private final Stream[] streams;
    private final Ranking latest;

    public FrequencySketches(int prime, int width, int rows, int counters) {
        this.family = new Family(
            leastPrimeFrom(within(prime, LEAST_PRIME, GREATEST_PRIME)),
            within(width, 1, MOST_WIDTH),
            within(rows, 1, MOST_ROWS));
        this.counters = within(counters, 1, MOST_COUNTERS);
        this.streams = new Stream[STREAMS];
        for (int i = 0; i < STREAMS; i++) {
            this.streams[i] = new Stream(this.family, this.counters);
        }
        this.latest = new Ranking(Math.min(this.family.prime, MOST_KEPT));
    }

    public int size(int what) {
        switch (what) {
            case 0: return family.prime;
            case 1: return family.width;
            case 2: return family.rows;
            case 3: return counters;
            default: return NONE;
        }
    }

    public boolean pair(int row, int a, int b) {
        if (!family.isRow(row) || !family.isPair(a, b) || !allStreamsEmpty()) {
            return false;
        }
        family.setPair(row, a, b);
        return true;
    }

    public int hash(int row, int key) {
        if (!family.isRow(row) || !family.isKey(key)) {
            return NONE;
        }
        return family.column(row, key);
    }

    public long add(int stream, int key, int times) {
        Stream s = streamAt(stream);
        if (s == null || !family.isKey(key) || times < 1 || times > MOST_TIMES) {
            return NONE;
        }
        if (s.n + times > MOST_TOTAL) {
            return NONE;
        }
        s.take(key, times);
        return s.n;
    }

    public boolean clear(int stream) {
        Stream s = streamAt(stream);
        if (s == null) {
            return false;
        }
        s.makeEmpty();
        return true;
    }

    public boolean copy(int to, int from) {
        Stream target = streamAt(to);
        Stream source = streamAt(from);
        if (target == null || source == null) {
            return false;
        }
        target.become(source);
        return true;
    }

    public long join(int to, int from) {
        Stream target = streamAt(to);
        Stream source = streamAt(from);
        if (target == null || source == null || target.n + source.n > MOST_TOTAL) {
            return NONE;
        }
        target.putTogether(source);
        return target.n;
    }

    public long total(int stream) {
        Stream s = streamAt(stream);
        return s == null ? NONE : s.n;
    }

    public long estimate(int stream, int sketch, int key, int side) {
        Sketch asked = sketchAt(stream, sketch);
        if (asked == null || !family.isKey(key)) {
            return NONE;
        }
        switch (side) {
            case 0: return asked.guess(key);
            case 1: return asked.low(key);
            case 2: return asked.high(key);
            default: return NONE;
        }
    }

    public long count(int stream, int key) {
        Stream s = streamAt(stream);
        if (s == null || !family.isKey(key) || s.counts.gone) {
            return NONE;
        }
        return s.counts.numberOf(key);
    }

    public long cell(int stream, int sketch, int row, int column) {
        Stream s = streamAt(stream);
        if (s == null || !family.isRow(row) || column < 0 || column >= family.width) {
            return NONE;
        }
        switch (sketch) {
            case PLAIN: return s.plain.at(row, column);
            case CAREFUL: return s.careful.at(row, column);
            default: return NONE;
        }
    }

    public long counter(int stream, int sketch, int i, int what) {
        Stream s = streamAt(stream);
        if (s == null) {
            return NONE;
        }
        switch (sketch) {
            case MISRA: return s.misra.held.tell(i, what);
            case SAVING: return s.saving.held.tell(i, what);
            default: return NONE;
        }
    }

    public long state(int stream, int what) {
        Stream s = streamAt(stream);
        if (s == null) {
            return NONE;
        }
        switch (what) {
            case 0: return s.misra.held.used;
            case 1: return s.misra.taken;
            case 2: return s.saving.held.used;
            case 3: return s.saving.least();
            case 4: return s.counts.gone ? NONE : s.counts.used;
            default: return NONE;
        }
    }

    public int report(int stream, int sketch, int parts, boolean sure) {
        Stream s = streamAt(stream);
        Sketch asked = sketchAt(stream, sketch);
        if (s == null || asked == null || parts < 1 || parts > MOST_PARTS) {
            return NONE;
        }
        // number * parts may be too great for a long; for whole numbers it is above n
        // just when the number is above n / parts, cut.
        long bar = s.n / parts;
        int found = 0;
        latest.start();
        for (int key = 0; key < family.prime; key++) {
            long number = sure ? asked.low(key) : asked.high(key);
            if (number > bar) {
                found++;
                latest.offer(key, number);
            }
        }
        return found;
    }

    public long reported(int i, int what) {
        return latest.tell(i, what);
    }

    public long overcounts(int stream, int key) {
        Stream s = streamAt(stream);
        if (s == null || !family.isKey(key) || s.counts.gone) {
            return NONE;
        }
        if (family.prime > OVERCOUNTS_PRIME || s.n > OVERCOUNTS_TOTAL) {
            return NONE;
        }
        // Each other key meets this one under equally many PAIRS, and the other keys'
        // counts together are n less this key's.
        return (s.n - s.counts.numberOf(key)) * family.pairsThatMeet();
    }

    public int audit(int stream) {
        Stream s = streamAt(stream);
        if (s == null || s.counts.gone) {
            return NONE;
        }
        return s.firstBroken();
    }

    private Stream streamAt(int stream) {
        return stream >= 0 && stream < STREAMS ? streams[stream] : null;
    }

    private Sketch sketchAt(int stream, int sketch) {
        Stream s = streamAt(stream);
        if (s == null || sketch < 0 || sketch >= SKETCHES) {
            return null;
        }
        return s.sketches[sketch];
    }

    private boolean allStreamsEmpty() {
        for (int i = 0; i < STREAMS; i++) {
            if (streams[i].n > 0) {
                return false;
            }
        }
        return true;
    }

    private static int within(int number, int least, int greatest) {
        return Math.max(least, Math.min(greatest, number));
    }

    private static int leastPrimeFrom(int number) {
        for (int candidate = number; candidate < GREATEST_PRIME; candidate++) {
            if (isPrime(candidate)) {
                return candidate;
            }
        }
        return GREATEST_PRIME;
    }

    private static boolean isPrime(int number) {
        for (int divisor = 2; divisor * divisor <= number; divisor++) {
            if (number % divisor == 0) {
                return false;
            }
        }
        return number >= LEAST_PRIME;
    }

    /** The hashes: one PAIR for each row. The prime is at least 2, the width and the rows 1. */
    private static final class Family {
        private final int prime;
        private final int width;
        private final int rows;
        private final int[] as;
        private final int[] bs;

        Family(int prime, int width, int rows) {
            this.prime = prime;
            this.width = width;
            this.rows = rows;
            this.as = new int[rows];
            this.bs = new int[rows];
            for (int i = 0; i < rows; i++) {
                this.as[i] = 1 + (7919 * i + 13) % (prime - 1);
                this.bs[i] = (104729 * i + 5) % prime;
            }
        }

        boolean isRow(int row) {
            return row >= 0 && row < rows;
        }

        boolean isKey(int key) {
            return key >= 0 && key < prime;
        }

        boolean isPair(int a, int b) {
            return a >= 1 && a < prime && b >= 0 && b < prime;
        }

        void setPair(int row, int a, int b) {
            as[row] = a;
            bs[row] = b;
        }

        int column(int row, int key) {
            long mixed = (long) as[row] * key + bs[row];
            return (int) (mixed % prime) % width;
        }

        /**
         * Under how many PAIRS two different keys have like hashes. The PAIRS lead two keys
         * to each two different remainders of the prime just once, so it is the number of
         * those, in order, that are alike by the width.
         */
        long pairsThatMeet() {
            long full = prime / width;
            long longer = prime % width;
            return longer * (full + 1) * full + (width - longer) * full * (full - 1);
        }
    }

    /** What a sketch tells of a key. */
    private interface Sketch {
        long guess(int key);

        long low(int key);

        long high(int key);
    }

    /** Count-min, plain or by conservative update. */
    private static final class Grid implements Sketch {
        private final Family family;
        private final boolean careful;
        private final long[] cells;

        Grid(Family family, boolean careful) {
            this.family = family;
            this.careful = careful;
            this.cells = new long[family.rows * family.width];
        }

        public long guess(int key) {
            long least = at(0, family.column(0, key));
            // No cell is below 0, so the other rows can't change a 0.
            for (int row = 1; row < family.rows && least > 0; row++) {
                least = Math.min(least, at(row, family.column(row, key)));
            }
            return least;
        }

        public long low(int key) {
            return 0;
        }

        public long high(int key) {
            return guess(key);
        }

        long at(int row, int column) {
            return cells[row * family.width + column];
        }

        void take(int key, int times) {
            // One by one a careful key's least cell grows by one each time, and no cell of
            // its goes above that one unless it stood there before.
            long goal = careful ? guess(key) + times : 0;
            for (int row = 0; row < family.rows; row++) {
                int place = row * family.width + family.column(row, key);
                cells[place] = careful ? Math.max(cells[place], goal) : cells[place] + times;
            }
        }

        void makeEmpty() {
            Arrays.fill(cells, 0L);
        }

        void become(Grid other) {
            System.arraycopy(other.cells, 0, cells, 0, cells.length);
        }

        void putTogether(Grid other) {
            for (int i = 0; i < cells.length; i++) {
                cells[i] += other.cells[i];
            }
        }
    }

    /** Which keys are there, one bit for each: most keys have no counter, and are looked for. */
    private static final class KeySet {
        private final long[] bits;

        KeySet(int prime) {
            this.bits = new long[prime / 64 + 1];
        }

        boolean has(int key) {
            return (bits[key >> 6] >>> (key & 63) & 1L) != 0;
        }

        void put(int key) {
            bits[key >> 6] |= 1L << (key & 63);
        }

        void drop(int key) {
            bits[key >> 6] &= ~(1L << (key & 63));
        }

        void makeEmpty() {
            Arrays.fill(bits, 0L);
        }

        void become(KeySet other) {
            System.arraycopy(other.bits, 0, bits, 0, bits.length);
        }
    }

    /** Counters in an order, with room for those of two streams while they are put together. */
    private static final class Counters {
        private final int limit;
        private final int[] keys;
        private final long[] numbers;
        private final long[] errors;
        private final KeySet known;
        private int used;

        Counters(int prime, int limit) {
            this.limit = limit;
            this.keys = new int[2 * limit];
            this.numbers = new long[2 * limit];
            this.errors = new long[2 * limit];
            this.known = new KeySet(prime);
        }

        boolean isFull() {
            return used >= limit;
        }

        /** Where a key's counter is, or NONE. */
        int find(int key) {
            if (known.has(key)) {
                for (int i = 0; i < used; i++) {
                    if (keys[i] == key) {
                        return i;
                    }
                }
            }
            return NONE;
        }

        long tell(int i, int what) {
            if (i < 0 || i >= used) {
                return NONE;
            }
            switch (what) {
                case 0: return keys[i];
                case 1: return numbers[i];
                case 2: return errors[i];
                default: return NONE;
            }
        }

        void append(int key, long number, long error) {
            insert(used, key, number, error);
        }

        void insert(int at, int key, long number, long error) {
            if (at < 0 || at > used || used >= keys.length) {
                return;
            }
            shift(at, at + 1);
            set(at, key, number, error);
            used++;
            known.put(key);
        }

        void remove(int at) {
            if (at < 0 || at >= used) {
                return;
            }
            known.drop(keys[at]);
            shift(at + 1, at);
            used--;
        }

        private void shift(int from, int to) {
            int moved = used - from;
            System.arraycopy(keys, from, keys, to, moved);
            System.arraycopy(numbers, from, numbers, to, moved);
            System.arraycopy(errors, from, errors, to, moved);
        }

        private void set(int at, int key, long number, long error) {
            keys[at] = key;
            numbers[at] = number;
            errors[at] = error;
        }

        void sortByNumberThenKey() {
            for (int i = 1; i < used; i++) {
                int key = keys[i];
                long number = numbers[i];
                long error = errors[i];
                int at = i;
                while (at > 0 && isBehind(at - 1, number, key)) {
                    set(at, keys[at - 1], numbers[at - 1], errors[at - 1]);
                    at--;
                }
                set(at, key, number, error);
            }
        }

        private boolean isBehind(int at, long number, int key) {
            return numbers[at] > number || (numbers[at] == number && keys[at] > key);
        }

        void makeEmpty() {
            used = 0;
            known.makeEmpty();
        }

        void become(Counters other) {
            System.arraycopy(other.keys, 0, keys, 0, other.used);
            System.arraycopy(other.numbers, 0, numbers, 0, other.used);
            System.arraycopy(other.errors, 0, errors, 0, other.used);
            used = other.used;
            known.become(other.known);
        }
    }

    /** Misra and Gries: the counters in the order in which they were made. */
    private static final class Misra implements Sketch {
        private final Counters held;
        private long taken;

        Misra(int prime, int limit) {
            this.held = new Counters(prime, limit);
        }

        public long guess(int key) {
            int at = held.find(key);
            return at < 0 ? 0 : held.numbers[at];
        }

        public long low(int key) {
            return guess(key);
        }

        public long high(int key) {
            return guess(key) + taken;
        }

        void take(int key, int times) {
            int at = held.find(key);
            if (at >= 0) {
                held.numbers[at] += times;
                return;
            }
            long left = times;
            if (held.isFull()) {
                // One by one the key would take from all until a counter is gone, or it is used up.
                long rounds = Math.min(greatest(held.used), left);
                takeFromAll(rounds);
                left -= rounds;
            }
            if (left > 0) {
                held.append(key, left, 0);
            }
        }

        private void takeFromAll(long number) {
            taken += number;
            for (int i = held.used - 1; i >= 0; i--) {
                held.numbers[i] -= number;
                if (held.numbers[i] <= 0) {
                    held.remove(i);
                }
            }
        }

        /** The rank-th greatest number, like ones counted each; 0 if there are not so many. */
        private long greatest(int rank) {
            for (int i = 0; i < held.used; i++) {
                int above = 0;
                int notBelow = 0;
                for (int j = 0; j < held.used; j++) {
                    above += held.numbers[j] > held.numbers[i] ? 1 : 0;
                    notBelow += held.numbers[j] >= held.numbers[i] ? 1 : 0;
                }
                if (above < rank && rank <= notBelow) {
                    return held.numbers[i];
                }
            }
            return 0;
        }

        void makeEmpty() {
            held.makeEmpty();
            taken = 0;
        }

        void become(Misra other) {
            held.become(other.held);
            taken = other.taken;
        }

        void putTogether(Misra other) {
            int count = other.held.used;
            for (int i = 0; i < count; i++) {
                int key = other.held.keys[i];
                long number = other.held.numbers[i];
                int at = held.find(key);
                if (at >= 0) {
                    held.numbers[at] += number;
                } else {
                    held.append(key, number, 0);
                }
            }
            taken += other.taken;
            if (held.used > held.limit) {
                takeFromAll(greatest(held.limit + 1));
            }
        }
    }

    /** SpaceSaving: the counters by their numbers, like ones by when they came to them. */
    private static final class Saving implements Sketch {
        private final Counters held;

        Saving(int prime, int limit) {
            this.held = new Counters(prime, limit);
        }

        long least() {
            return held.isFull() ? held.numbers[0] : 0;
        }

        public long guess(int key) {
            int at = held.find(key);
            return at < 0 ? least() : held.numbers[at];
        }

        public long low(int key) {
            int at = held.find(key);
            return at < 0 ? 0 : held.numbers[at] - held.errors[at];
        }

        public long high(int key) {
            return guess(key);
        }

        void take(int key, int times) {
            int at = held.find(key);
            long before = at < 0 ? least() : held.numbers[at];
            long error = at < 0 ? before : held.errors[at];
            if (at < 0 && held.isFull()) {
                at = 0;
            }
            if (at >= 0) {
                held.remove(at);
            }
            long number = before + times;
            held.insert(placeBehind(number), key, number, error);
        }

        private int placeBehind(long number) {
            int place = 0;
            while (place < held.used && held.numbers[place] <= number) {
                place++;
            }
            return place;
        }

        void makeEmpty() {
            held.makeEmpty();
        }

        void become(Saving other) {
            held.become(other.held);
        }

        void putTogether(Saving other) {
            long mine = least();
            long theirs = other.least();
            for (int i = 0; i < held.used; i++) {
                int at = other.held.find(held.keys[i]);
                held.numbers[i] += at < 0 ? theirs : other.held.numbers[at];
                held.errors[i] += at < 0 ? theirs : other.held.errors[at];
            }
            int count = other.held.used;
            for (int i = 0; i < count; i++) {
                int key = other.held.keys[i];
                if (held.find(key) < 0) {
                    held.append(key, other.held.numbers[i] + mine, other.held.errors[i] + mine);
                }
            }
            for (int excess = held.used - held.limit; excess > 0; excess--) {
                held.remove(weakest());
            }
            held.sortByNumberThenKey();
        }

        /** Of the least number, the highest key. */
        private int weakest() {
            int weakest = 0;
            for (int i = 1; i < held.used; i++) {
                long over = held.numbers[weakest] - held.numbers[i];
                if (over > 0 || (over == 0 && held.keys[i] > held.keys[weakest])) {
                    weakest = i;
                }
            }
            return weakest;
        }
    }

    /** What all four sketches together are sure of. */
    private static final class Best implements Sketch {
        private final Grid plain;
        private final Grid careful;
        private final Misra misra;
        private final Saving saving;

        Best(Grid plain, Grid careful, Misra misra, Saving saving) {
            this.plain = plain;
            this.careful = careful;
            this.misra = misra;
            this.saving = saving;
        }

        public long guess(int key) {
            return (low(key) + high(key)) / 2;
        }

        public long low(int key) {
            long ofGrids = Math.max(plain.low(key), careful.low(key));
            return Math.max(ofGrids, Math.max(misra.low(key), saving.low(key)));
        }

        public long high(int key) {
            long ofCounters = Math.min(misra.high(key), saving.high(key));
            // The grids are dear to ask, and no HIGH is below 0.
            if (ofCounters == 0) {
                return 0;
            }
            return Math.min(ofCounters, Math.min(plain.high(key), careful.high(key)));
        }
    }

    /** The counts themselves, by their keys, as long as there is room. */
    private static final class Counts {
        private final int[] keys;
        private final long[] numbers;
        private int used;
        private boolean gone;

        Counts(int prime) {
            int room = Math.min(prime, MOST_COUNTED);
            this.keys = new int[room];
            this.numbers = new long[room];
        }

        long numberOf(int key) {
            int at = placeOf(key);
            return isAt(at, key) ? numbers[at] : 0;
        }

        private boolean isAt(int at, int key) {
            return at < used && keys[at] == key;
        }

        /** How many keys are below this one. */
        private int placeOf(int key) {
            int place = 0;
            for (int step = 256; step > 0; step /= 2) {
                if (place + step <= used && keys[place + step - 1] < key) {
                    place += step;
                }
            }
            return place;
        }

        void take(int key, long times) {
            if (gone) {
                return;
            }
            int at = placeOf(key);
            if (isAt(at, key)) {
                numbers[at] += times;
            } else if (used >= keys.length) {
                gone = true;
            } else {
                System.arraycopy(keys, at, keys, at + 1, used - at);
                System.arraycopy(numbers, at, numbers, at + 1, used - at);
                keys[at] = key;
                numbers[at] = times;
                used++;
            }
        }

        long together() {
            long sum = 0;
            for (int i = 0; i < used; i++) {
                sum += numbers[i];
            }
            return sum;
        }

        void makeEmpty() {
            used = 0;
            gone = false;
        }

        void become(Counts other) {
            System.arraycopy(other.keys, 0, keys, 0, other.used);
            System.arraycopy(other.numbers, 0, numbers, 0, other.used);
            used = other.used;
            gone = other.gone;
        }

        void putTogether(Counts other) {
            // Counts that are GONE had more keys than there is room for, so both together have, too.
            gone = gone || other.gone;
            int count = other.used;
            for (int i = 0; i < count; i++) {
                take(other.keys[i], other.numbers[i]);
            }
        }
    }

    /** A stream with its sketches and counts. */
    private static final class Stream {
        private final Grid plain;
        private final Grid careful;
        private final Misra misra;
        private final Saving saving;
        private final Counts counts;
        private final Sketch[] sketches;
        private long n;

        Stream(Family family, int limit) {
            this.plain = new Grid(family, false);
            this.careful = new Grid(family, true);
            this.misra = new Misra(family.prime, limit);
            this.saving = new Saving(family.prime, limit);
            this.counts = new Counts(family.prime);
            this.sketches = new Sketch[SKETCHES];
            this.sketches[PLAIN] = this.plain;
            this.sketches[CAREFUL] = this.careful;
            this.sketches[MISRA] = this.misra;
            this.sketches[SAVING] = this.saving;
            this.sketches[BEST] = new Best(this.plain, this.careful, this.misra, this.saving);
        }

        void take(int key, int times) {
            n += times;
            plain.take(key, times);
            careful.take(key, times);
            misra.take(key, times);
            saving.take(key, times);
            counts.take(key, times);
        }

        void makeEmpty() {
            n = 0;
            plain.makeEmpty();
            careful.makeEmpty();
            misra.makeEmpty();
            saving.makeEmpty();
            counts.makeEmpty();
        }

        void become(Stream other) {
            n = other.n;
            plain.become(other.plain);
            careful.become(other.careful);
            misra.become(other.misra);
            saving.become(other.saving);
            counts.become(other.counts);
        }

        /** The other one may be this one: each part reads a place before it changes it. */
        void putTogether(Stream other) {
            n += other.n;
            plain.putTogether(other.plain);
            careful.putTogether(other.careful);
            misra.putTogether(other.misra);
            saving.putTogether(other.saving);
            counts.putTogether(other.counts);
        }

        int firstBroken() {
            for (int sketch = PLAIN; sketch <= SAVING; sketch++) {
                if (!holdsCounts(sketches[sketch])) {
                    return sketch + 1;
                }
            }
            if (!carefulIsNotAbovePlain()) {
                return 5;
            }
            if ((misra.held.limit + 1) * misra.taken > n) {
                return 6;
            }
            return counts.together() == n ? 0 : 7;
        }

        private boolean holdsCounts(Sketch sketch) {
            for (int i = 0; i < counts.used; i++) {
                int key = counts.keys[i];
                long number = counts.numbers[i];
                if (sketch.low(key) > number || sketch.high(key) < number) {
                    return false;
                }
            }
            return true;
        }

        private boolean carefulIsNotAbovePlain() {
            for (int i = 0; i < counts.used; i++) {
                int key = counts.keys[i];
                if (careful.guess(key) > plain.guess(key)) {
                    return false;
                }
            }
            return true;
        }
    }

    /** The keys of the latest report, the greatest number first. */
    private static final class Ranking {
        private final int[] keys;
        private final long[] numbers;
        private int used;

        Ranking(int room) {
            this.keys = new int[room];
            this.numbers = new long[room];
        }

        void start() {
            used = 0;
        }

        /** Keys are offered from the lowest on, so of like numbers the later one goes behind. */
        void offer(int key, long number) {
            if (used >= keys.length) {
                if (numbers[used - 1] >= number) {
                    return;
                }
                used--;
            }
            int at = used;
            while (at > 0 && numbers[at - 1] < number) {
                keys[at] = keys[at - 1];
                numbers[at] = numbers[at - 1];
                at--;
            }
            keys[at] = key;
            numbers[at] = number;
            used++;
        }

        long tell(int i, int what) {
            if (i < 0 || i >= used) {
                return NONE;
            }
            switch (what) {
                case 0: return keys[i];
                case 1: return numbers[i];
                default: return NONE;
            }
        }
    }
}
