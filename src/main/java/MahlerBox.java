import java.util.Arrays;

/** Whole polynomials of small Mahler measure, as ../shared/DOC.md promises them. */
public final class MahlerBox {
    public static final int NONE = -1;

    private static final int PLACES = 8;
    private static final int IMAGES = 2;
    private static final int MOST_DEGREE = 12;
    private static final int ROW = MOST_DEGREE + 1;
    private static final int MOST_SIZE = 9_999;
    private static final int TOP_LEVEL = 6;
    private static final int TOP_CYCLOTOMIC = 42;
    private static final int FARTHEST_X = 50;
    private static final int MOST_V = 99_999_999;
    private static final int MOST_FOUND = 30;
    private static final int MOST_IN_BOX = 3_125;
    private static final int NOT_IN_STORE = -2;

    private static final int BAD_NUMBER = -1;
    private static final int NO_PLACE = -2;
    private static final int NOT_NOW = -4;
    private static final int NO_RESULT = -5;
    private static final int NO_TEXT = -6;

    private static final int READ = 0;
    private static final int TIMES = 1;
    private static final int BY = 2;
    private static final int PLUS = 3;
    private static final int TURN = 4;
    private static final int CYCLOTOMIC = 5;
    private static final int CORE = 6;
    private static final int SEARCH = 7;
    private static final int TAKE = 8;

    private final Tape band = new Tape();
    private final Ladder ladder = new Ladder();
    private final Gauge gauge = new Gauge();
    private final Circle circle = new Circle();
    private final Hunt hunt = new Hunt();
    private final Past past = new Past();
    private final Shelf[] images = new Shelf[IMAGES];
    /** What comes of an act stands here first; a product or P of x x may have DEGREE 24. */
    private final long[] row = new long[2 * MOST_DEGREE + 1];
    private final long[] spare = new long[2 * MOST_DEGREE + 1];
    private final int[] refusals = new int[5];
    private Shelf shelf = new Shelf();
    private int lastFault = NONE;
    private int lastRefusal = 0;

    public MahlerBox() {
    }

    public int feed(int a, int b, int c, int d, int e) {
        if (!band.hasRoom(20)) {
            return NONE;
        }
        band.addWord(a);
        band.addWord(b);
        band.addWord(c);
        band.addWord(d);
        band.addWord(e);
        return band.length;
    }

    public int end(int n) {
        if (n < 0 || n > band.length) {
            return NONE;
        }
        band.length = n;
        return n;
    }

    public int tape(int i) {
        return band.byteAt(i);
    }

    public int read(int i) {
        if (!isPlace(i)) {
            return refuse(NO_PLACE);
        }
        lastFault = Text.parse(band, row);
        band.length = 0;
        return lastFault == NONE ? putRow(READ, i) : refuse(NO_TEXT);
    }

    public int fault() {
        return lastFault;
    }

    public int listing(int i) {
        if (!isPlace(i)) {
            return refuse(NO_PLACE);
        }
        Text.write(shelf.poly(i), band);
        return accept(band.length);
    }

    public int times(int i, int j, int k) {
        if (!isPlace(i) || !isPlace(j) || !isPlace(k)) {
            return refuse(NO_PLACE);
        }
        shelf.poly(i).writeProduct(shelf.poly(j), row);
        return putRow(TIMES, k);
    }

    public int by(int i, int j, int k) {
        if (!isPlace(i) || !isPlace(j) || !isPlace(k)) {
            return refuse(NO_PLACE);
        }
        Poly whole = shelf.poly(i);
        whole.writeTo(spare);
        if (!shelf.poly(j).divides(spare, whole.degree, row)) {
            return refuse(NOT_NOW);
        }
        return putRow(BY, k);
    }

    public int plus(int how, int i, int j, int k) {
        if (how < 0 || how > 1) {
            return refuse(BAD_NUMBER);
        }
        if (!isPlace(i) || !isPlace(j) || !isPlace(k)) {
            return refuse(NO_PLACE);
        }
        Poly other = shelf.poly(j);
        shelf.poly(i).writeTo(row);
        for (int p = 0; p <= other.degree; p++) {
            row[p] += how == 0 ? other.at[p] : -other.at[p];
        }
        return putRow(PLUS, k);
    }

    public int turn(int how, int i, int k) {
        if (how < 0 || how > 5) {
            return refuse(BAD_NUMBER);
        }
        if (!isPlace(i) || !isPlace(k)) {
            return refuse(NO_PLACE);
        }
        Poly poly = shelf.poly(i);
        if (how < 5) {
            poly.writeTurned(how, row);
        } else {
            poly.writeTo(spare);
            Arrays.fill(row, 0);
            if (!Ladder.writesSquared(spare, poly.degree, row)) {
                return refuse(NO_RESULT);
            }
        }
        return putRow(TURN, k);
    }

    public int cyclotomic(int n, int k) {
        Poly poly = n < 1 ? null : circle.divisor(n);
        if (poly == null) {
            return refuse(BAD_NUMBER);
        }
        if (!isPlace(k)) {
            return refuse(NO_PLACE);
        }
        poly.writeTo(row);
        return putRow(CYCLOTOMIC, k);
    }

    public int core(int i, int k) {
        if (!isPlace(i) || !isPlace(k)) {
            return refuse(NO_PLACE);
        }
        circle.begin(shelf.poly(i));
        circle.divideAllOut();
        circle.writeCore(row);
        return putRow(CORE, k);
    }

    public int search(int degree, int height, int level, int v) {
        boolean inBox = degree >= 2 && degree <= 10 && degree % 2 == 0 && height >= 1 && height <= 3;
        if (!inBox || !isLevel(level) || v < 1_000 || v > MOST_SIZE) {
            return refuse(BAD_NUMBER);
        }
        if (Hunt.boxSize(degree, height) > MOST_IN_BOX) {
            return refuse(NOT_NOW);
        }
        hunt.begin(degree, height);
        hunt.setLimits(level, v, gauge);
        int size = Hunt.boxSize(degree, height);
        for (int i = 0; i < size; i++) {
            if (hunt.isFound(ladder, circle)) {
                hunt.keep(ladder, gauge);
            }
            hunt.goOn();
        }
        Found found = hunt.told();
        moveOn(SEARCH, shelf.withFound(found));
        return accept(found.inAll);
    }

    public int take(int i, int k) {
        if (!shelf.found.has(i) || !isPlace(k)) {
            return refuse(NO_PLACE);
        }
        shelf.found.writeTo(i, row);
        return putRow(TAKE, k);
    }

    public int undo() {
        if (past.size == 0) {
            return refuse(NOT_NOW);
        }
        int kind = past.latestKind();
        shelf = past.drop(shelf);
        return accept(kind);
    }

    public int image(int k) {
        if (k < 0 || k >= IMAGES) {
            return refuse(BAD_NUMBER);
        }
        images[k] = shelf;
        return accept(shelf.degrees());
    }

    public int back(int k) {
        if (k < 0 || k >= IMAGES) {
            return refuse(BAD_NUMBER);
        }
        Shelf kept = images[k];
        if (kept == null) {
            return refuse(NO_PLACE);
        }
        shelf = kept;
        past.forget();
        return accept(shelf.degrees());
    }

    public int coefficient(int i, int power) {
        if (!isPlace(i) || !isPower(power)) {
            return Integer.MIN_VALUE;
        }
        return shelf.poly(i).ofPower(power);
    }

    public int of(int i, int what) {
        if (!isPlace(i)) {
            return NONE;
        }
        Poly poly = shelf.poly(i);
        switch (what) {
            case 0: return poly.degree;
            case 1: return poly.sizes();
            case 2: return poly.greatestSize();
            case 3: return poly.squares();
            case 4: return poly.isReciprocal() ? 1 : 0;
            case 5: return isMeasureOne(poly) ? 1 : 0;
            case 6: return poly.terms();
            case 7: return poly.commonDivisor();
            case 8: return poly.signChanges();
            case 9: return ladder.climb(poly, TOP_LEVEL);
            default: return NONE;
        }
    }

    public long level(int i, int k, int power) {
        if (!isPower(power) || !standsOn(i, k)) {
            return Long.MIN_VALUE;
        }
        return power <= ladder.degree ? ladder.rows[k][power] : 0;
    }

    public int low(int i, int k) {
        return standsOn(i, k) ? gauge.lowBy(ladder, k) : NONE;
    }

    public int high(int i, int k) {
        return standsOn(i, k) ? gauge.highBy(ladder, k) : NONE;
    }

    public int enclosed(int i, int what) {
        if (!isPlace(i) || what < 0 || what > 3) {
            return NONE;
        }
        ladder.climb(shelf.poly(i), TOP_LEVEL);
        if (what % 2 == 0) {
            gauge.findGreatestLow(ladder);
        } else {
            gauge.findLeastHigh(ladder);
        }
        return what < 2 ? gauge.bestBound : gauge.bestLevel;
    }

    public int often(int i, int n) {
        if (!isPlace(i) || circle.divisor(n) == null) {
            return NONE;
        }
        circle.begin(shelf.poly(i));
        return circle.divideOut(n);
    }

    public long value(int i, int x) {
        if (!isPlace(i) || x < -FARTHEST_X || x > FARTHEST_X) {
            return Long.MIN_VALUE;
        }
        return shelf.poly(i).valueAt(x);
    }

    public int roots(int i, int what) {
        if (!isPlace(i) || what < 0 || what > 2) {
            return Integer.MIN_VALUE;
        }
        Poly poly = shelf.poly(i);
        int many = 0;
        int lowest = Integer.MIN_VALUE;
        int highest = Integer.MIN_VALUE;
        for (int x = -FARTHEST_X; x <= FARTHEST_X; x++) {
            if (poly.isZeroAt(x)) {
                lowest = many == 0 ? x : lowest;
                highest = x;
                many++;
            }
        }
        if (what == 0) {
            return many;
        }
        return what == 1 ? lowest : highest;
    }

    public int compare(int i, int j, int k) {
        if (!isPlace(i) || !isPlace(j) || !isLevel(k)) {
            return -2;
        }
        int first = ladder.climb(shelf.poly(i), k);
        int lowOfFirst = gauge.lowBy(ladder, first);
        int highOfFirst = gauge.highBy(ladder, first);
        int second = ladder.climb(shelf.poly(j), k);
        int lowOfSecond = gauge.lowBy(ladder, second);
        int highOfSecond = gauge.highBy(ladder, second);
        if (lowOfFirst > highOfSecond) {
            return 1;
        }
        return lowOfSecond > highOfFirst ? -1 : 0;
    }

    public int surely(int i, int k, int v) {
        if (!isPlace(i) || !isLevel(k) || v < 0 || v > MOST_V) {
            return -2;
        }
        int best = ladder.climb(shelf.poly(i), k);
        if (gauge.highBy(ladder, best) <= v) {
            return 1;
        }
        return gauge.lowBy(ladder, best) > v ? 0 : -1;
    }

    public int least(int set) {
        if (set <= 0 || set >= 1 << PLACES) {
            return NONE;
        }
        int leastHigh = Integer.MAX_VALUE;
        int place = NONE;
        for (int i = 0; i < PLACES; i++) {
            if ((set >> i & 1) == 1) {
                ladder.climb(shelf.poly(i), TOP_LEVEL);
                gauge.findLeastHigh(ladder);
                place = gauge.bestBound < leastHigh ? i : place;
                leastHigh = Math.min(gauge.bestBound, leastHigh);
            }
        }
        // LOW is never above HIGH of the same one, so that no other place can be below all others.
        for (int j = 0; j < PLACES; j++) {
            if ((set >> j & 1) == 1 && j != place) {
                ladder.climb(shelf.poly(j), TOP_LEVEL);
                gauge.findGreatestLow(ladder);
                if (gauge.bestBound <= leastHigh) {
                    return NONE;
                }
            }
        }
        return place;
    }

    public int found(int i, int what) {
        Found found = shelf.found;
        if (!found.has(i) || what < 0 || what > 15 || what > found.degree && what < 13) {
            return Integer.MIN_VALUE;
        }
        return found.entry(i, what);
    }

    public int smallest(int what) {
        Found found = shelf.found;
        if (found.kept == 0 || what < 0 || what > 2) {
            return NONE;
        }
        int first = found.firstLeast();
        if (what == 0) {
            return found.howMany(found.entry(first, Found.HIGH));
        }
        return what == 1 ? first : found.entry(first, Found.HIGH);
    }

    public int count(int what) {
        if (isPlace(what)) {
            return shelf.poly(what).degree;
        }
        if (what >= 14 && what <= 18) {
            return refusals[what - 14];
        }
        switch (what) {
            case 8: return shelf.found.kept;
            case 9: return shelf.found.inAll;
            case 10: return shelf.found.looked;
            case 11: return shelf.found.ones;
            case 12: return past.size;
            case 13: return band.length;
            default: return NONE;
        }
    }

    public int status() {
        return lastRefusal;
    }

    private static boolean isPlace(int i) {
        return i >= 0 && i < PLACES;
    }

    private static boolean isPower(int power) {
        return power >= 0 && power <= MOST_DEGREE;
    }

    private static boolean isLevel(int k) {
        return k >= 0 && k <= TOP_LEVEL;
    }

    private int refuse(int code) {
        lastRefusal = code;
        // No call is refused by -3, so that what stands behind it moves up by one.
        int slot = code >= NO_PLACE ? -code - 1 : -code - 2;
        if (slot >= 0 && slot < refusals.length) {
            refusals[slot]++;
        }
        return code;
    }

    private int accept(int answer) {
        lastRefusal = 0;
        return answer;
    }

    private int putRow(int kind, int k) {
        int top = Poly.topOf(row);
        if (!Poly.canBeInStore(row, top)) {
            return refuse(NO_RESULT);
        }
        moveOn(kind, shelf.withPoly(k, new Poly(row, top)));
        return accept(top);
    }

    private void moveOn(int kind, Shelf next) {
        past.keep(kind, shelf);
        shelf = next;
    }

    /** Climbs to LEVEL k of place i: false if there is none, or it is BEYOND. */
    private boolean standsOn(int i, int k) {
        return isPlace(i) && isLevel(k) && ladder.climb(shelf.poly(i), k) == k;
    }

    private boolean isMeasureOne(Poly poly) {
        circle.begin(poly);
        return circle.isOne();
    }

    /** One POLYNOMIAL; it never changes, so that STORE, IMAGES and what can be undone may share it. */
    private static final class Poly {
        /** Above every COEFFICIENT of a whole divisor of what can be in STORE (924 times 36,052). */
        static final long BEYOND_DIVISORS = 1_000_000_000L;

        final int degree;
        final int[] at;

        Poly(long[] row, int top) {
            degree = Math.max(0, Math.min(top, Math.min(row.length - 1, MOST_DEGREE)));
            at = new int[degree + 1];
            for (int p = 0; p <= degree && p < row.length; p++) {
                at[p] = (int) row[p];
            }
        }

        /** The highest power that is there; NONE if nothing is. */
        static int topOf(long[] row) {
            int top = row.length - 1;
            while (top >= 0 && row[top] == 0) {
                top--;
            }
            return top;
        }

        static boolean canBeInStore(long[] row, int top) {
            if (top < 0 || top > MOST_DEGREE || top >= row.length) {
                return false;
            }
            for (int p = 0; p <= top; p++) {
                if (row[p] > MOST_SIZE || row[p] < -MOST_SIZE) {
                    return false;
                }
            }
            return true;
        }

        int ofPower(int power) {
            return power >= 0 && power <= degree ? at[power] : 0;
        }

        void writeTo(long[] row) {
            Arrays.fill(row, 0);
            for (int p = 0; p <= degree && p < row.length; p++) {
                row[p] = at[p];
            }
        }

        void writeProduct(Poly other, long[] row) {
            Arrays.fill(row, 0);
            for (int p = 0; p <= degree; p++) {
                for (int q = 0; q <= other.degree && p + q < row.length; q++) {
                    row[p + q] += (long) at[p] * other.at[q];
                }
            }
        }

        /** The ways of turn(), but for SQUARED. */
        void writeTurned(int how, long[] row) {
            Arrays.fill(row, 0);
            for (int p = 0; p <= degree && 2 * p < row.length; p++) {
                switch (how) {
                    case 0: row[degree - p] = at[p]; break;
                    case 1: row[p] = p % 2 == 0 ? at[p] : -at[p]; break;
                    case 2: row[2 * p] = at[p]; break;
                    case 3: row[p] = -at[p]; break;
                    default:
                        if (p > 0) {
                            row[p - 1] = (long) p * at[p];
                        }
                }
            }
        }

        /** Uses rest (of DEGREE top) up; the quotient is written only as far as it goes without rest. */
        boolean divides(long[] rest, int top, long[] quotient) {
            int lead = at[degree];
            if (lead == 0 || top < degree || top >= rest.length || top - degree >= quotient.length) {
                return false;
            }
            Arrays.fill(quotient, 0);
            for (int p = top - degree; p >= 0; p--) {
                long head = rest[p + degree];
                long part = head / lead;
                if (part * lead != head || part > BEYOND_DIVISORS || part < -BEYOND_DIVISORS) {
                    return false;
                }
                quotient[p] = part;
                for (int q = 0; part != 0 && q < degree; q++) {
                    rest[p + q] -= part * at[q];
                }
            }
            for (int p = 0; p < degree; p++) {
                if (rest[p] != 0) {
                    return false;
                }
            }
            return true;
        }

        int sizes() {
            int sum = 0;
            for (int p = 0; p <= degree; p++) {
                sum += Math.abs(at[p]);
            }
            return sum;
        }

        int greatestSize() {
            int most = 0;
            for (int p = 0; p <= degree; p++) {
                most = Math.max(most, Math.abs(at[p]));
            }
            return most;
        }

        int squares() {
            int sum = 0;
            for (int p = 0; p <= degree; p++) {
                sum += at[p] * at[p];
            }
            return sum;
        }

        boolean isReciprocal() {
            for (int p = 0; p <= degree; p++) {
                if (at[p] != at[degree - p]) {
                    return false;
                }
            }
            return true;
        }

        int terms() {
            int many = 0;
            for (int p = 0; p <= degree; p++) {
                many += at[p] == 0 ? 0 : 1;
            }
            return many;
        }

        int commonDivisor() {
            int common = 0;
            for (int p = 0; p <= degree; p++) {
                common = commonOf(common, Math.abs(at[p]));
            }
            return common;
        }

        /** Rests at least halve in two steps, so that 64 are enough. */
        static int commonOf(int a, int b) {
            int common = a;
            int rest = b;
            for (int i = 0; i < 64 && rest != 0; i++) {
                int next = common % rest;
                common = rest;
                rest = next;
            }
            return common;
        }

        int signChanges() {
            int changes = 0;
            int latest = 0;
            for (int p = 0; p <= degree; p++) {
                if (at[p] != 0) {
                    changes += latest != 0 && latest > 0 != at[p] > 0 ? 1 : 0;
                    latest = at[p];
                }
            }
            return changes;
        }

        long valueAt(int x) {
            long sum = at[degree];
            for (int p = degree - 1; p >= 0; p--) {
                long product = sum * x;
                if (!Ladder.productFits(sum, x) || !Ladder.sumFits(product, at[p])) {
                    return Long.MIN_VALUE;
                }
                sum = product + at[p];
            }
            return sum;
        }

        boolean isZeroAt(int x) {
            long sum = 0;
            for (int p = degree; p >= 0; p--) {
                sum = sum * x + at[p];
                // -1, 0, 1 never come so far; from others no way leads back to 0.
                if (sum > (long) ROW * MOST_SIZE || sum < (long) -ROW * MOST_SIZE) {
                    return false;
                }
            }
            return sum == 0;
        }
    }

    /** All that undo() and back() bring back: STORE and what was FOUND. It never changes. */
    private static final class Shelf {
        final Poly[] polys = new Poly[PLACES];
        final Found found;

        Shelf() {
            Poly one = new Poly(new long[] {1}, 0);
            for (int i = 0; i < PLACES; i++) {
                polys[i] = one;
            }
            found = new Found(0, 0, 0, 0, new int[0]);
        }

        private Shelf(Shelf from, Found found) {
            for (int i = 0; i < PLACES; i++) {
                polys[i] = from.polys[i];
            }
            this.found = found;
        }

        /** i is a place of STORE. */
        Poly poly(int i) {
            return polys[i & PLACES - 1];
        }

        Shelf withPoly(int k, Poly poly) {
            Shelf next = new Shelf(this, found);
            next.polys[k & PLACES - 1] = poly;
            return next;
        }

        Shelf withFound(Found next) {
            return new Shelf(this, next);
        }

        int degrees() {
            int sum = 0;
            for (int i = 0; i < PLACES; i++) {
                sum += polys[i].degree;
            }
            return sum;
        }
    }

    /** What one SEARCH told. It never changes. */
    private static final class Found {
        static final int WIDTH = 16;
        static final int HIGH = 13;
        static final int LOW = 14;
        static final int LEVEL = 15;

        final int degree;
        final int inAll;
        final int looked;
        final int ones;
        final int kept;
        private final int[] entries;

        Found(int degree, int inAll, int looked, int ones, int[] entries) {
            this.degree = degree;
            this.inAll = inAll;
            this.looked = looked;
            this.ones = ones;
            this.entries = entries;
            kept = entries.length / WIDTH;
        }

        boolean has(int i) {
            return i >= 0 && i < kept;
        }

        int entry(int i, int what) {
            return has(i) && what >= 0 && what < WIDTH ? entries[i * WIDTH + what] : 0;
        }

        void writeTo(int i, long[] row) {
            Arrays.fill(row, 0);
            for (int p = 0; p <= degree && p < row.length; p++) {
                row[p] = entry(i, p);
            }
        }

        int firstLeast() {
            int first = 0;
            for (int i = 1; i < kept; i++) {
                if (entry(i, HIGH) < entry(first, HIGH)) {
                    first = i;
                }
            }
            return first;
        }

        int howMany(int high) {
            int many = 0;
            for (int i = 0; i < kept; i++) {
                many += entry(i, HIGH) == high ? 1 : 0;
            }
            return many;
        }
    }

    /** What can be undone, the oldest first. */
    private static final class Past {
        static final int MOST = 8;

        private final Shelf[] shelves = new Shelf[MOST];
        private final int[] kinds = new int[MOST];
        int size = 0;

        void keep(int kind, Shelf before) {
            if (size == MOST) {
                for (int i = 1; i < MOST; i++) {
                    shelves[i - 1] = shelves[i];
                    kinds[i - 1] = kinds[i];
                }
                size--;
            }
            shelves[size] = before;
            kinds[size] = kind;
            size++;
        }

        int latestKind() {
            return size > 0 ? kinds[size - 1] : NONE;
        }

        /** The latest one, which is kept no longer; without any what stands now. */
        Shelf drop(Shelf now) {
            if (size == 0) {
                return now;
            }
            size--;
            Shelf before = shelves[size];
            shelves[size] = null;
            return before == null ? now : before;
        }

        void forget() {
            for (int i = 0; i < MOST; i++) {
                shelves[i] = null;
            }
            size = 0;
        }
    }

    /** The bytes, and the place at which a TEXT is being read. */
    private static final class Tape {
        static final int MOST = 400;

        private final byte[] bytes = new byte[MOST];
        int length = 0;
        int place = 0;

        boolean hasRoom(int more) {
            return length + more <= MOST;
        }

        int byteAt(int i) {
            return i >= 0 && i < length ? bytes[i] & 255 : NONE;
        }

        void addByte(int b) {
            if (length < MOST) {
                bytes[length] = (byte) b;
                length++;
            }
        }

        void addWord(int word) {
            for (int shift = 24; shift >= 0; shift -= 8) {
                addByte(word >>> shift);
            }
        }

        void addNumber(int number) {
            for (int unit = 1_000; unit > 0; unit /= 10) {
                if (number >= unit || unit == 1) {
                    addByte('0' + number / unit % 10);
                }
            }
        }

        boolean isAt(char sign) {
            return byteAt(place) == sign;
        }

        boolean isAtDigit() {
            return byteAt(place) >= '0' && byteAt(place) <= '9';
        }

        void skipBlanks() {
            while (place < length && isAt(' ')) {
                place++;
            }
        }

        boolean skips(char sign) {
            boolean there = isAt(sign);
            place += there ? 1 : 0;
            return there;
        }

        /** All numbers above 9,999 are told as 10,000: they are too great anywhere. */
        int takeNumber() {
            int number = 0;
            while (place < length && isAtDigit()) {
                number = Math.min(number * 10 + byteAt(place) - '0', MOST_SIZE + 1);
                place++;
            }
            return number;
        }
    }

    /** TEXT, both ways. */
    private static final class Text {
        /** FAULT; if it is NONE, the row has the COEFFICIENTS. */
        static int parse(Tape band, long[] row) {
            Arrays.fill(row, 0);
            band.place = 0;
            band.skipBlanks();
            boolean minus = band.skips('-');
            if (!minus) {
                band.skips('+');
            }
            boolean more = true;
            for (int terms = 0; more && terms <= Tape.MOST; terms++) {
                int fault = parseTerm(band, minus, row);
                if (fault != NONE) {
                    return fault;
                }
                minus = band.skips('-');
                more = minus || band.skips('+');
            }
            if (band.place < band.length) {
                return band.place;
            }
            return Poly.canBeInStore(row, Poly.topOf(row)) ? NONE : NOT_IN_STORE;
        }

        /** With the blanks around it. */
        private static int parseTerm(Tape band, boolean minus, long[] row) {
            band.skipBlanks();
            int start = band.place;
            boolean numbered = band.isAtDigit();
            int size = numbered ? band.takeNumber() : 1;
            if (size > MOST_SIZE) {
                return start;
            }
            band.skipBlanks();
            int power = 0;
            if (band.skips('x')) {
                band.skipBlanks();
                power = 1;
                if (band.skips('^')) {
                    band.skipBlanks();
                    start = band.place;
                    power = band.isAtDigit() ? band.takeNumber() : NONE;
                    band.skipBlanks();
                }
            } else if (!numbered) {
                return band.place;
            }
            if (power < 0 || power > MOST_DEGREE || power >= row.length) {
                return start;
            }
            row[power] += minus ? -size : size;
            return NONE;
        }

        static void write(Poly poly, Tape band) {
            band.length = 0;
            for (int p = poly.degree; p >= 0; p--) {
                if (poly.at[p] != 0) {
                    writeTerm(poly.at[p], p, band);
                }
            }
        }

        private static void writeTerm(int number, int power, Tape band) {
            int size = Math.abs(number);
            if (number < 0) {
                band.addByte('-');
            } else if (band.length > 0) {
                band.addByte('+');
            }
            if (size != 1 || power == 0) {
                band.addNumber(size);
            }
            if (power > 0) {
                band.addByte('x');
            }
            if (power > 1) {
                band.addByte('^');
                band.addNumber(power);
            }
        }
    }

    /** LEVELS of one POLYNOMIAL, as far as they are not BEYOND. */
    private static final class Ladder {
        /** Thirteen products of two such sizes are far within a long, in any order. */
        static final long EASY = 1L << 29;

        final long[][] rows = new long[TOP_LEVEL + 1][ROW];
        int degree = 0;
        int top = 0;

        /** The greatest LEVEL up to k that is not BEYOND. */
        int climb(Poly poly, int k) {
            poly.writeTo(rows[0]);
            degree = poly.degree;
            return climbFromFirst(k);
        }

        /** The same for a row that is no POLYNOMIAL of STORE. */
        int climbRow(long[] row, int ofDegree, int k) {
            degree = Math.max(0, Math.min(ofDegree, Math.min(row.length, ROW) - 1));
            System.arraycopy(row, 0, rows[0], 0, degree + 1);
            return climbFromFirst(k);
        }

        private int climbFromFirst(int k) {
            top = 0;
            while (top < k && top < TOP_LEVEL && writesSquared(rows[top], degree, rows[top + 1])) {
                top++;
            }
            return top;
        }

        /** Writes SQUARED of a into out: false if it is BEYOND. */
        static boolean writesSquared(long[] a, int n, long[] out) {
            if (n < 0 || n >= a.length || n >= out.length) {
                return false;
            }
            boolean easy = true;
            for (int i = 0; i <= n; i++) {
                easy = easy && a[i] < EASY && a[i] > -EASY;
            }
            for (int j = 0; j <= n; j++) {
                if (easy) {
                    out[j] = easySum(a, n, j);
                } else if (!writesCarefulSum(a, n, j, out)) {
                    return false;
                }
            }
            return true;
        }

        /** Where nothing can be BEYOND, each product of two different ones is reckoned once. */
        private static long easySum(long[] a, int n, int j) {
            long pairs = 0;
            for (int far = Math.min(j, n - j); far > 0; far--) {
                pairs = a[j - far] * a[j + far] - pairs;
            }
            long sum = a[j] * a[j] - 2 * pairs;
            return (n + j) % 2 == 0 ? sum : -sum;
        }

        /** One by one, in the order that tells what is BEYOND. */
        private static boolean writesCarefulSum(long[] a, int n, int j, long[] out) {
            long sum = 0;
            int last = Math.min(n, 2 * j);
            for (int i = Math.max(0, 2 * j - n); i <= last; i++) {
                int l = 2 * j - i;
                if (!productFits(a[i], a[l])) {
                    return false;
                }
                long product = a[i] * a[l];
                boolean less = (l + n) % 2 != 0;
                if (less ? !differenceFits(sum, product) : !sumFits(sum, product)) {
                    return false;
                }
                sum += less ? -product : product;
            }
            out[j] = sum;
            return true;
        }

        static boolean productFits(long a, long b) {
            if (a == 0 || b == 0) {
                return true;
            }
            if (a == -1) {
                // The one quotient that isn't within a long itself.
                return b != Long.MIN_VALUE;
            }
            return a * b / a == b;
        }

        static boolean sumFits(long a, long b) {
            long sum = a + b;
            return ((a ^ sum) & (b ^ sum)) >= 0;
        }

        static boolean differenceFits(long a, long b) {
            long difference = a - b;
            return ((a ^ b) & (a ^ difference)) >= 0;
        }
    }

    /** A whole number not below 0, of as many bits as its room has. */
    private static final class Whole {
        /** Sums of 64 products of two digits are within a long, so that carries can wait. */
        static final int BITS = 28;
        static final long MASK = (1L << BITS) - 1;

        final long[] digits;
        int length = 0;

        Whole(int room) {
            digits = new long[Math.max(1, room)];
        }

        /** Of a number of one digit. */
        void setSmall(int number) {
            digits[0] = number & MASK;
            length = digits[0] == 0 ? 0 : 1;
        }

        /** Of a long that tells a size without sign (2 to the 63 comes as Long.MIN_VALUE). */
        void setSize(long size) {
            int room = Math.min(3, digits.length);
            for (int i = 0; i < room; i++) {
                digits[i] = size >>> i * BITS & MASK;
            }
            carry(room);
        }

        void setTo(Whole other) {
            length = Math.min(other.length, digits.length);
            System.arraycopy(other.digits, 0, digits, 0, length);
        }

        void setSquare(Whole a) {
            int room = Math.min(digits.length, 2 * a.length);
            Arrays.fill(digits, 0, room, 0);
            for (int i = 0; i < a.length && i < room; i++) {
                long digit = a.digits[i];
                int last = Math.min(a.length, room - i);
                if (2 * i < room) {
                    digits[2 * i] += digit * digit;
                }
                for (int j = i + 1; j < last; j++) {
                    digits[i + j] += 2 * digit * a.digits[j];
                }
            }
            carry(room);
        }

        void setProduct(Whole a, Whole b) {
            int room = Math.min(digits.length, a.length + b.length);
            Arrays.fill(digits, 0, room, 0);
            for (int i = 0; i < a.length && i < room; i++) {
                long digit = a.digits[i];
                int last = Math.min(b.length, room - i);
                for (int j = 0; j < last; j++) {
                    digits[i + j] += digit * b.digits[j];
                }
            }
            carry(room);
        }

        /** All squared, together. */
        void setSquares(long[] a, int n) {
            Arrays.fill(digits, 0);
            for (int i = 0; i <= n && i < a.length && digits.length >= 5; i++) {
                long size = Math.abs(a[i]);
                long first = size & MASK;
                long second = size >>> BITS & MASK;
                long third = size >>> 2 * BITS;
                digits[0] += first * first;
                digits[1] += 2 * first * second;
                digits[2] += 2 * first * third + second * second;
                digits[3] += 2 * second * third;
                digits[4] += third * third;
            }
            carry(digits.length);
        }

        void divide(int divisor) {
            if (divisor <= 0) {
                return;
            }
            long rest = 0;
            for (int i = length - 1; i >= 0; i--) {
                long head = rest << BITS | digits[i];
                digits[i] = head / divisor;
                rest = head % divisor;
            }
            carry(length);
        }

        /** Of a number above 0. */
        void lessOne() {
            int i = 0;
            while (i < length - 1 && digits[i] == 0) {
                digits[i] = MASK;
                i++;
            }
            if (i < length) {
                digits[i]--;
            }
            carry(length);
        }

        boolean isAbove(Whole other) {
            if (length != other.length) {
                return length > other.length;
            }
            for (int i = length - 1; i >= 0; i--) {
                if (digits[i] != other.digits[i]) {
                    return digits[i] > other.digits[i];
                }
            }
            return false;
        }

        /** Makes digits of sums, and leaves noughts at the end out of length. */
        private void carry(int room) {
            long over = 0;
            length = 0;
            for (int i = 0; i < room; i++) {
                long sum = digits[i] + over;
                digits[i] = sum & MASK;
                over = sum >>> BITS;
                length = digits[i] == 0 ? length : i + 1;
            }
        }
    }

    /** LOW and HIGH, exactly. */
    private static final class Gauge {
        /** Above every HIGH (13 times 9,999,000), and one digit. */
        static final int MOST_ROOT = (1 << Whole.BITS) - 1;

        /** By s: 1,000 to the 2 to the s. */
        private final Whole[] thousands = new Whole[TOP_LEVEL + 2];
        private final int[][] ways = new int[ROW][ROW];
        private final Whole size = new Whole(8);
        private final Whole bound = new Whole(64);
        private final Whole one = new Whole(128);
        private final Whole two = new Whole(128);
        int bestBound = 0;
        int bestLevel = 0;

        Gauge() {
            Whole thousand = new Whole(1);
            thousand.setSmall(1_000);
            thousands[0] = thousand;
            for (int s = 1; s < thousands.length; s++) {
                Whole next = new Whole(2 * thousand.length);
                next.setSquare(thousand);
                thousands[s] = next;
                thousand = next;
            }
            for (int n = 0; n < ROW; n++) {
                ways[n][0] = 1;
                for (int i = 1; i <= n; i++) {
                    ways[n][i] = ways[n - 1][i - 1] + ways[n - 1][i];
                }
            }
        }

        int lowBy(Ladder ladder, int k) {
            if (k < 0 || k > TOP_LEVEL) {
                return NONE;
            }
            long[] a = ladder.rows[k];
            int n = ladder.degree;
            int best = greatestShare(a, n);
            size.setSize(Math.abs(a[best]));
            bound.setProduct(thousands[k], size);
            bound.divide(ways[n][best]);
            return root(k);
        }

        int highBy(Ladder ladder, int k) {
            if (k < 0 || k > TOP_LEVEL) {
                return NONE;
            }
            size.setSquares(ladder.rows[k], ladder.degree);
            bound.setProduct(thousands[k + 1], size);
            bound.lessOne();
            return root(k + 1) + 1;
        }

        /** Of all LEVELS of the ladder, the first with the greatest LOW. */
        void findGreatestLow(Ladder ladder) {
            bestBound = Integer.MIN_VALUE;
            for (int k = 0; k <= ladder.top; k++) {
                int next = lowBy(ladder, k);
                if (next > bestBound) {
                    bestBound = next;
                    bestLevel = k;
                }
            }
        }

        /** Of all LEVELS of the ladder, the first with the least HIGH. */
        void findLeastHigh(Ladder ladder) {
            bestBound = Integer.MAX_VALUE;
            for (int k = 0; k <= ladder.top; k++) {
                int next = highBy(ladder, k);
                if (next < bestBound) {
                    bestBound = next;
                    bestLevel = k;
                }
            }
        }

        /** Into limit: the greatest sum of squares with which HIGH by LEVEL k is v at most. */
        void setLimit(int v, int k, Whole limit) {
            Whole power = powerOf(v, k + 1);
            // A million divides away two of the thousands at once.
            for (int i = 0; i < 1 << k; i++) {
                power.divide(1_000_000);
            }
            limit.setTo(power);
        }

        /** Where a size by its number of ways is greatest; told by sizes below 0, as each has one. */
        private int greatestShare(long[] a, int n) {
            int best = n;
            long bestWhole = -Math.abs(a[n]);
            long bestRest = 0;
            for (int i = 0; i < n; i++) {
                long below = a[i] > 0 ? -a[i] : a[i];
                long whole = below / ways[n][i];
                long rest = below % ways[n][i];
                boolean more = whole < bestWhole
                        || whole == bestWhole && rest * ways[n][best] < bestRest * ways[n][i];
                if (more) {
                    best = i;
                    bestWhole = whole;
                    bestRest = rest;
                }
            }
            return best;
        }

        /** The greatest number of which the power 2 to the s is not above bound. */
        private int root(int s) {
            int guess = guessRoot(s);
            while (guess < MOST_ROOT && !powerOf(guess + 1, s).isAbove(bound)) {
                guess++;
            }
            return guess;
        }

        /** From the highest bits alone, always rounded down: never above the root, and below it by one at most. */
        private int guessRoot(int s) {
            long head = 0;
            int rest = bound.length;
            while (rest > 0 && head < 1L << 34) {
                rest--;
                head = head << Whole.BITS | bound.digits[rest];
            }
            int shift = Whole.BITS * rest;
            for (int i = 0; i < 31 && head < 1L << 60; i++) {
                head <<= 2;
                shift -= 2;
            }
            for (int i = 0; i < s; i++) {
                head = squareRoot(head) << 30;
                shift = shift / 2 - 30;
                if (shift % 2 != 0) {
                    head <<= 1;
                    shift--;
                }
            }
            if (shift <= -63) {
                return 0;
            }
            return shift > 0 ? MOST_ROOT : (int) Math.min(MOST_ROOT, head >> -shift);
        }

        /** Of a number 2 to the 60 .. 2 to the 62. */
        private static long squareRoot(long number) {
            long root = 1L << 31;
            for (int i = 0; i < 64; i++) {
                long next = root <= 0 ? root : root + number / root >> 1;
                if (next >= root) {
                    return root;
                }
                root = next;
            }
            return root;
        }

        private Whole powerOf(int number, int s) {
            Whole now = one;
            Whole next = two;
            now.setSmall(number);
            for (int i = 0; i < s; i++) {
                next.setSquare(now);
                Whole other = now;
                now = next;
                next = other;
            }
            return now;
        }
    }

    /** x and CYCLOTOMIC ones, and what they leave of a POLYNOMIAL. */
    private static final class Circle {
        /** A divisor's value divides the value of what it divides: most trials end with that. */
        static final int MARK_X = 4;

        /** By n; x at 0; null where DEGREE is above 12. */
        private final Poly[] divisors = new Poly[TOP_CYCLOTOMIC + 1];
        /** Their values; 0 where there is none. */
        private final long[] marks = new long[TOP_CYCLOTOMIC + 1];
        private final long[] left = new long[ROW];
        private final long[] rest = new long[ROW];
        private final long[] quotient = new long[ROW];
        private int top = 0;
        private long mark = 0;

        Circle() {
            left[1] = 1;
            put(0, 1);
            for (int n = 1; n <= TOP_CYCLOTOMIC; n++) {
                int degree = writeCyclotomic(n);
                if (degree <= MOST_DEGREE) {
                    put(n, degree);
                }
            }
        }

        Poly divisor(int n) {
            return n >= 0 && n < divisors.length ? divisors[n] : null;
        }

        void begin(Poly poly) {
            poly.writeTo(left);
            top = poly.degree;
            mark = markOf(left, top);
        }

        /** The same with a row that is no POLYNOMIAL of STORE yet. */
        void beginRow(long[] row, int degree) {
            top = Math.max(0, Math.min(degree, Math.min(row.length, ROW) - 1));
            System.arraycopy(row, 0, left, 0, top + 1);
            mark = markOf(left, top);
        }

        /** If what is left is of measure ONE; that is divided out. */
        boolean isOne() {
            // All divisors have 1 last, so that CORE has the last one of the whole.
            if (Math.abs(left[top]) != 1) {
                return false;
            }
            divideAllOut();
            return top == 0;
        }

        void divideAllOut() {
            int n = 0;
            // Each step goes on to the next divisor, or takes off from top.
            for (int step = 0; step <= TOP_CYCLOTOMIC + MOST_DEGREE && n <= TOP_CYCLOTOMIC && top > 0; step++) {
                boolean may = marks[n] != 0 && mark % marks[n] == 0;
                n += may && isDividedBy(n) ? 0 : 1;
            }
        }

        /** How OFTEN divisor n was in what is left. */
        int divideOut(int n) {
            int many = 0;
            while (many < MOST_DEGREE && isDividedBy(n)) {
                many++;
            }
            return many;
        }

        void writeCore(long[] row) {
            Arrays.fill(row, 0);
            boolean minus = left[top] < 0;
            for (int p = 0; p <= top && p < row.length; p++) {
                row[p] = minus ? -left[p] : left[p];
            }
        }

        /** Divides what is left by divisor n, if that goes without rest. */
        private boolean isDividedBy(int n) {
            Poly poly = divisor(n);
            if (poly == null || poly.degree > top || marks[n] == 0) {
                return false;
            }
            System.arraycopy(left, 0, rest, 0, ROW);
            if (!poly.divides(rest, top, quotient)) {
                return false;
            }
            System.arraycopy(quotient, 0, left, 0, ROW);
            top -= poly.degree;
            mark /= marks[n];
            return true;
        }

        private void put(int n, int degree) {
            divisors[n] = new Poly(left, degree);
            marks[n] = markOf(left, degree);
        }

        private static long markOf(long[] row, int degree) {
            long sum = 0;
            for (int p = degree; p >= 0; p--) {
                sum = sum * MARK_X + row[p];
            }
            return sum;
        }

        /**
         * Into left, if its DEGREE, which is told, isn't above 12: 1 less x to the d for all d that divide n,
         * multiplied or divided by, as series as far as x to the 12.
         */
        private int writeCyclotomic(int n) {
            Arrays.fill(left, 0);
            left[0] = n == 1 ? -1 : 1;
            int degree = 0;
            for (int d = 1; d <= n; d++) {
                int way = n % d == 0 ? moebius(n / d) : 0;
                degree += way * d;
                for (int p = MOST_DEGREE; way > 0 && p >= d; p--) {
                    left[p] -= left[p - d];
                }
                for (int p = d; way < 0 && p <= MOST_DEGREE; p++) {
                    left[p] += left[p - d];
                }
            }
            return degree;
        }

        /** 0 if a square divides n, else 1 or -1 by an even or odd number of primes. */
        private static int moebius(int n) {
            int sign = 1;
            int leftOver = n;
            for (int prime = 2; prime <= n && leftOver > 1; prime++) {
                if (leftOver % prime == 0) {
                    leftOver /= prime;
                    sign = leftOver % prime == 0 ? 0 : -sign;
                }
            }
            return sign;
        }
    }

    /** SEARCH, one POLYNOMIAL of the BOX after the other. */
    private static final class Hunt {
        /** By LEVEL: the greatest sum of squares that lets one be FOUND. */
        private final Whole[] limits = new Whole[TOP_LEVEL + 1];
        private final Whole squares = new Whole(8);
        private final long[] row = new long[ROW];
        private final int[] entries = new int[MOST_FOUND * Found.WIDTH];
        private int degree = 0;
        private int height = 0;
        private int level = 0;
        private int inAll = 0;
        private int looked = 0;
        private int ones = 0;

        Hunt() {
            for (int k = 0; k <= TOP_LEVEL; k++) {
                limits[k] = new Whole(24);
            }
        }

        static int boxSize(int degree, int height) {
            int size = 1;
            for (int i = 1; i <= degree / 2 && i < ROW; i++) {
                size *= 2 * height + 1;
            }
            return size;
        }

        /** To the first one of a BOX. */
        void begin(int ofDegree, int ofHeight) {
            degree = Math.max(0, Math.min(ofDegree, MOST_DEGREE));
            height = ofHeight;
            inAll = 0;
            looked = 0;
            ones = 0;
            Arrays.fill(row, 0);
            Arrays.fill(row, 0, degree, -height);
            putBoth(0, 1);
        }

        void setLimits(int byLevel, int v, Gauge gauge) {
            level = Math.max(0, Math.min(byLevel, TOP_LEVEL));
            for (int k = 0; k <= level; k++) {
                gauge.setLimit(v, k, limits[k]);
            }
        }

        /** To the next one: the COEFFICIENT in the middle changes first. */
        void goOn() {
            int i = degree / 2;
            while (i > 0 && row[i] >= height) {
                putBoth(i, -height);
                i--;
            }
            if (i > 0) {
                putBoth(i, row[i] + 1);
            }
        }

        /** Whether this one is FOUND; the ladder stands on the LEVEL that tells it then. */
        boolean isFound(Ladder ladder, Circle circle) {
            looked++;
            circle.beginRow(row, degree);
            if (circle.isOne()) {
                ones++;
                return false;
            }
            int by = ladder.climbRow(row, degree, level);
            squares.setSquares(ladder.rows[by], degree);
            return !squares.isAbove(limits[by]);
        }

        /** Counts this one as FOUND; the first 30 stay with what is told of them. */
        void keep(Ladder ladder, Gauge gauge) {
            if (inAll < MOST_FOUND) {
                int start = inAll * Found.WIDTH;
                for (int p = 0; p < ROW; p++) {
                    entries[start + p] = (int) row[p];
                }
                entries[start + Found.HIGH] = gauge.highBy(ladder, ladder.top);
                entries[start + Found.LOW] = gauge.lowBy(ladder, ladder.top);
                entries[start + Found.LEVEL] = ladder.top;
            }
            inAll++;
        }

        Found told() {
            int kept = Math.min(inAll, MOST_FOUND);
            return new Found(degree, inAll, looked, ones, Arrays.copyOf(entries, kept * Found.WIDTH));
        }

        private void putBoth(int i, long number) {
            row[i] = number;
            row[degree - i] = number;
        }
    }
}
