import java.math.BigInteger;
import java.util.ArrayList;
import java.util.List;
import java.util.Random;

/**
 * Runs of calls drawn from fixed seeds, each answer held against a slow model of the document that
 * is written another way: whole numbers without bound, thousandths sought by halving, tokens.
 */
public final class ModelTest {
    private static final int RUNS = 260;
    private static final int CALLS = 512;
    private static int wrong = 0;
    private static int answers = 0;

    public static void main(String[] args) {
        for (int run = 0; run < RUNS && wrong < 20; run++) {
            new Run(run).play();
        }
        System.out.println(answers + " answers held against the model, " + wrong + " wrong");
        if (wrong != 0) {
            System.exit(1);
        }
    }

    /** One object and its model, and how the next call is drawn. */
    private static final class Run {
        private final int number;
        private final Random random;
        private final MahlerBox box = new MahlerBox();
        private final Model model = new Model();
        private int calls = 0;

        Run(int number) {
            this.number = number;
            this.random = new Random(7_919L * number + 17);
        }

        void play() {
            while (calls < CALLS && wrong < 20) {
                int kind = random.nextInt(100);
                if (kind < 12) {
                    text();
                } else if (kind < 55) {
                    act();
                } else {
                    ask();
                }
            }
        }

        private void due(String call, long got, long want) {
            calls++;
            answers++;
            if (got != want) {
                wrong++;
                System.out.println("run " + number + ", call " + calls + ": " + call + " answered " + got
                        + ", the model " + want);
            }
        }

        private int place() {
            return random.nextInt(25) == 0 ? random.nextInt(2) * 9 - 1 : random.nextInt(8);
        }

        /** A number of 0 .. most; now and then one just outside. */
        private int upTo(int most) {
            return random.nextInt(20) == 0 ? random.nextInt(2) * (most + 2) - 1 : random.nextInt(most + 1);
        }

        private void text() {
            if (random.nextInt(4) != 0) {
                due("end(0)", box.end(0), model.end(0));
            }
            StringBuilder text = new StringBuilder();
            int terms = random.nextInt(10) == 0 ? random.nextInt(60) : 1 + random.nextInt(6);
            int size = new int[] {1, 2, 9, 100, 9999, 9999}[random.nextInt(6)];
            for (int t = 0; t < terms; t++) {
                blanks(text);
                if (t > 0 || random.nextBoolean()) {
                    text.append(random.nextBoolean() ? '+' : '-');
                }
                blanks(text);
                int form = random.nextInt(5);
                if (form != 0) {
                    text.append(random.nextInt(30) == 0 ? "00" : "").append(random.nextInt(size + 1));
                }
                blanks(text);
                if (form < 4) {
                    text.append('x');
                    blanks(text);
                    if (random.nextInt(4) != 0) {
                        text.append('^');
                        blanks(text);
                        text.append(random.nextInt(random.nextInt(60) == 0 ? 14 : 13));
                    }
                }
            }
            blanks(text);
            if (random.nextInt(4) == 0 && text.length() > 0) {
                spoil(text);
            }
            feedText(text.toString());
            int to = place();
            due("read(" + to + ") of '" + text + "'", box.read(to), model.read(to));
            due("fault()", box.fault(), model.fault);
        }

        private void blanks(StringBuilder text) {
            while (random.nextInt(8) == 0) {
                text.append(' ');
            }
        }

        private void spoil(StringBuilder text) {
            int at = random.nextInt(text.length());
            String signs = "+-x^0123456789 X*.\t\u00e9\u0000";
            char sign = signs.charAt(random.nextInt(signs.length()));
            switch (random.nextInt(4)) {
                case 0: text.setCharAt(at, sign); break;
                case 1: text.insert(at, sign); break;
                case 2: text.deleteCharAt(at); break;
                default: text.setLength(at);
            }
        }

        private void feedText(String text) {
            int start = model.tape.size();
            for (int at = 0; at < text.length() && model.tape.size() + 20 <= 400; at += 20) {
                int[] words = new int[5];
                for (int i = 0; i < 20; i++) {
                    int sign = at + i < text.length() ? text.charAt(at + i) : 0;
                    words[i / 4] |= sign << 24 - 8 * (i % 4);
                }
                feed(words);
            }
            int length = Math.min(start + text.length(), model.tape.size());
            due("end(" + length + ")", box.end(length), model.end(length));
        }

        private void feed(int[] w) {
            due("feed", box.feed(w[0], w[1], w[2], w[3], w[4]), model.feed(w));
        }

        private void act() {
            int i = place();
            int j = place();
            int k = place();
            switch (random.nextInt(22)) {
                case 0: case 1: case 2:
                    due("times(" + i + ", " + j + ", " + k + ")", box.times(i, j, k), model.times(i, j, k));
                    break;
                case 3: case 4: case 5:
                    due("by(" + i + ", " + j + ", " + k + ")", box.by(i, j, k), model.by(i, j, k));
                    break;
                case 6: case 7: {
                    int how = upTo(1);
                    due("plus(" + how + ", " + i + ", " + j + ", " + k + ")", box.plus(how, i, j, k),
                            model.plus(how, i, j, k));
                    break;
                }
                case 8: case 9: case 10: {
                    int how = upTo(5);
                    due("turn(" + how + ", " + i + ", " + k + ")", box.turn(how, i, k), model.turn(how, i, k));
                    break;
                }
                case 11: case 12: case 13: {
                    int n = random.nextInt(3) == 0 ? upTo(43) : 1 + random.nextInt(12);
                    due("cyclotomic(" + n + ", " + k + ")", box.cyclotomic(n, k), model.cyclotomic(n, k));
                    break;
                }
                case 14:
                    due("core(" + i + ", " + k + ")", box.core(i, k), model.core(i, k));
                    break;
                case 15:
                    if (random.nextInt(3) == 0) {
                        search();
                    }
                    break;
                case 16: case 17: {
                    int which = random.nextInt(5) == 0 ? upTo(31) : random.nextInt(4);
                    due("take(" + which + ", " + k + ")", box.take(which, k), model.take(which, k));
                    break;
                }
                case 18:
                    due("undo()", box.undo(), model.undo());
                    break;
                case 19: {
                    int which = upTo(1);
                    due("image(" + which + ")", box.image(which), model.image(which));
                    break;
                }
                case 20:
                    if (random.nextInt(3) == 0) {
                        int which = upTo(1);
                        due("back(" + which + ")", box.back(which), model.back(which));
                    }
                    break;
                default:
                    due("listing(" + i + ")", box.listing(i), model.listing(i));
                    for (int at = 0; at < model.tape.size() && random.nextInt(12) != 0; at++) {
                        due("tape(" + at + ")", box.tape(at), model.byteAt(at));
                    }
            }
            due("status()", box.status(), model.status);
        }

        private void search() {
            int degree = random.nextInt(12) == 0 ? upTo(12) : 2 + 2 * random.nextInt(3);
            int height = random.nextInt(12) == 0 ? upTo(4) : 1 + random.nextInt(2);
            if (random.nextInt(25) == 0) {
                degree = 8 + 2 * random.nextInt(2);
                height = 1 + random.nextInt(3);
            }
            int level = upTo(6);
            int v = new int[] {999, 1000, 1400, 1733, 2000, 2500, 3000, 3317, 9999, 10000}[random.nextInt(10)];
            if (random.nextInt(2) == 0) {
                v = 1100 + random.nextInt(2500);
            }
            due("search(" + degree + ", " + height + ", " + level + ", " + v + ")",
                    box.search(degree, height, level, v), model.search(degree, height, level, v));
        }

        private void ask() {
            int i = place();
            int k = upTo(6);
            int what;
            switch (random.nextInt(17)) {
                case 0:
                    what = upTo(12);
                    due("coefficient(" + i + ", " + what + ")", box.coefficient(i, what), model.coefficient(i, what));
                    break;
                case 1: case 2:
                    what = upTo(9);
                    due("of(" + i + ", " + what + ")", box.of(i, what), model.of(i, what));
                    break;
                case 3:
                    what = upTo(12);
                    due("level(" + i + ", " + k + ", " + what + ")", box.level(i, k, what), model.level(i, k, what));
                    break;
                case 4:
                    due("low(" + i + ", " + k + ")", box.low(i, k), model.low(i, k));
                    break;
                case 5:
                    due("high(" + i + ", " + k + ")", box.high(i, k), model.high(i, k));
                    break;
                case 6:
                    what = upTo(3);
                    due("enclosed(" + i + ", " + what + ")", box.enclosed(i, what), model.enclosed(i, what));
                    break;
                case 7:
                    what = random.nextInt(2) == 0 ? upTo(42) : random.nextInt(7);
                    due("often(" + i + ", " + what + ")", box.often(i, what), model.often(i, what));
                    break;
                case 8:
                    what = random.nextInt(105) - 52;
                    due("value(" + i + ", " + what + ")", box.value(i, what), model.value(i, what));
                    break;
                case 9:
                    what = upTo(2);
                    due("roots(" + i + ", " + what + ")", box.roots(i, what), model.roots(i, what));
                    break;
                case 10: {
                    int j = place();
                    due("compare(" + i + ", " + j + ", " + k + ")", box.compare(i, j, k), model.compare(i, j, k));
                    break;
                }
                case 11:
                    surely(i, k);
                    break;
                case 12:
                    what = random.nextInt(5) == 0 ? random.nextInt(300) - 20
                            : 1 << random.nextInt(8) | 1 << random.nextInt(8);
                    due("least(" + what + ")", box.least(what), model.least(what));
                    break;
                case 13: {
                    int which = random.nextInt(3) == 0 ? upTo(31) : random.nextInt(4);
                    what = upTo(16);
                    due("found(" + which + ", " + what + ")", box.found(which, what), model.found(which, what));
                    break;
                }
                case 14:
                    what = upTo(2);
                    due("smallest(" + what + ")", box.smallest(what), model.smallest(what));
                    break;
                default:
                    what = upTo(18);
                    due("count(" + what + ")", box.count(what), model.count(what));
            }
        }

        private void surely(int i, int k) {
            int v = random.nextInt(3) == 0 ? random.nextInt(20_000) : random.nextInt(110_000_000) - 1_000_000;
            int near = random.nextBoolean() ? model.low(i, k) : model.high(i, k);
            if (near != -1 && random.nextBoolean()) {
                v = near + random.nextInt(3) - 1;
            }
            due("surely(" + i + ", " + k + ", " + v + ")", box.surely(i, k, v), model.surely(i, k, v));
        }
    }

    /** What can be undone and kept in an IMAGE. */
    private static final class State {
        final List<List<BigInteger>> store = new ArrayList<>();
        final List<int[]> found = new ArrayList<>();
        int foundDegree = 0;
        int inAll = 0;
        int looked = 0;
        int ones = 0;

        State copy() {
            State next = new State();
            for (List<BigInteger> poly : store) {
                next.store.add(new ArrayList<>(poly));
            }
            next.found.addAll(found);
            next.foundDegree = foundDegree;
            next.inAll = inAll;
            next.looked = looked;
            next.ones = ones;
            return next;
        }

        int degrees() {
            int sum = 0;
            for (List<BigInteger> poly : store) {
                sum += poly.size() - 1;
            }
            return sum;
        }
    }

    private static final class Model {
        private static final BigInteger MOST_LONG = BigInteger.valueOf(Long.MAX_VALUE);
        private static final BigInteger LEAST_LONG = BigInteger.valueOf(Long.MIN_VALUE);
        private static final BigInteger LIMIT = BigInteger.valueOf(9_999);
        private static final BigInteger THOUSAND = BigInteger.valueOf(1_000);

        State state = new State();
        final List<State> past = new ArrayList<>();
        final List<Integer> kinds = new ArrayList<>();
        final State[] images = new State[2];
        List<Integer> tape = new ArrayList<>();
        int fault = -1;
        int status = 0;
        final int[] refused = new int[7];

        Model() {
            for (int i = 0; i < 8; i++) {
                state.store.add(of(BigInteger.ONE));
            }
        }

        private static List<BigInteger> of(BigInteger... coefficients) {
            return new ArrayList<>(List.of(coefficients));
        }

        private static boolean place(int i) {
            return 0 <= i && i <= 7;
        }

        private int no(int code) {
            status = code;
            refused[-code]++;
            return code;
        }

        private int yes(int answer) {
            status = 0;
            return answer;
        }

        private static List<BigInteger> trimmed(List<BigInteger> poly) {
            List<BigInteger> out = new ArrayList<>(poly);
            while (!out.isEmpty() && out.get(out.size() - 1).signum() == 0) {
                out.remove(out.size() - 1);
            }
            return out;
        }

        private static boolean storable(List<BigInteger> poly) {
            if (poly.isEmpty() || poly.size() > 13) {
                return false;
            }
            for (BigInteger c : poly) {
                if (c.abs().compareTo(LIMIT) > 0) {
                    return false;
                }
            }
            return true;
        }

        private void remember(int kind) {
            past.add(state.copy());
            kinds.add(kind);
            if (past.size() > 8) {
                past.remove(0);
                kinds.remove(0);
            }
        }

        private int put(int kind, List<BigInteger> poly, int k) {
            List<BigInteger> out = trimmed(poly);
            if (!storable(out)) {
                return no(-5);
            }
            remember(kind);
            state.store.set(k, out);
            return yes(out.size() - 1);
        }

        int feed(int[] words) {
            if (tape.size() + 20 > 400) {
                return -1;
            }
            for (int word : words) {
                for (int b = 3; b >= 0; b--) {
                    tape.add(word >> 8 * b & 255);
                }
            }
            return tape.size();
        }

        int end(int n) {
            if (n < 0 || n > tape.size()) {
                return -1;
            }
            tape = new ArrayList<>(tape.subList(0, n));
            return n;
        }

        int byteAt(int i) {
            return i < 0 || i >= tape.size() ? -1 : tape.get(i);
        }

        int read(int i) {
            if (!place(i)) {
                return no(-2);
            }
            List<BigInteger> sums = new ArrayList<>();
            for (int p = 0; p < 13; p++) {
                sums.add(BigInteger.ZERO);
            }
            fault = faultOf(sums);
            tape = new ArrayList<>();
            if (fault == -1 && !storable(trimmed(sums))) {
                fault = -2;
            }
            return fault == -1 ? put(0, sums, i) : no(-6);
        }

        /** By states: 0 ahead of all, 1 behind a sign, 2 a number, 3 x, 4 ^, 5 a power. */
        private int faultOf(List<BigInteger> sums) {
            int stand = 0;
            boolean minus = false;
            BigInteger number = BigInteger.ONE;
            int at = 0;
            while (at < tape.size()) {
                int sign = tape.get(at);
                int start = at;
                at++;
                if (sign == ' ') {
                    continue;
                }
                if (sign >= '0' && sign <= '9') {
                    StringBuilder digits = new StringBuilder().append((char) sign);
                    while (at < tape.size() && tape.get(at) >= '0' && tape.get(at) <= '9') {
                        digits.append((char) (int) tape.get(at));
                        at++;
                    }
                    BigInteger told = new BigInteger(digits.toString());
                    if (stand == 4 && told.compareTo(BigInteger.valueOf(12)) <= 0) {
                        add(sums, told.intValue(), minus, number);
                        stand = 5;
                    } else if (stand <= 1 && told.compareTo(LIMIT) <= 0) {
                        number = told;
                        stand = 2;
                    } else {
                        return start;
                    }
                } else if (sign == 'x' && stand <= 2) {
                    number = stand == 2 ? number : BigInteger.ONE;
                    stand = 3;
                } else if (sign == '^' && stand == 3) {
                    stand = 4;
                } else if ((sign == '+' || sign == '-') && stand != 1 && stand != 4) {
                    finish(sums, stand, minus, number);
                    minus = sign == '-';
                    stand = 1;
                } else {
                    return start;
                }
            }
            if (stand <= 1 || stand == 4) {
                return tape.size();
            }
            finish(sums, stand, minus, number);
            return -1;
        }

        private static void finish(List<BigInteger> sums, int stand, boolean minus, BigInteger number) {
            if (stand == 2 || stand == 3) {
                add(sums, stand == 2 ? 0 : 1, minus, number);
            }
        }

        private static void add(List<BigInteger> sums, int power, boolean minus, BigInteger number) {
            sums.set(power, minus ? sums.get(power).subtract(number) : sums.get(power).add(number));
        }

        int listing(int i) {
            if (!place(i)) {
                return no(-2);
            }
            String text = "";
            List<BigInteger> poly = state.store.get(i);
            for (int p = poly.size() - 1; p >= 0; p--) {
                if (poly.get(p).signum() != 0) {
                    text += (poly.get(p).signum() < 0 ? "-" : "+") + poly.get(p).abs() + "x^" + p + ";";
                }
            }
            text = text.replace("x^0;", ";").replace("x^1;", "x;").replace("+1x", "+x").replace("-1x", "-x");
            text = text.replace(";", "");
            text = text.startsWith("+") ? text.substring(1) : text;
            tape = new ArrayList<>();
            for (char sign : text.toCharArray()) {
                tape.add((int) sign);
            }
            return yes(tape.size());
        }

        private static List<BigInteger> product(List<BigInteger> a, List<BigInteger> b) {
            List<BigInteger> out = new ArrayList<>();
            for (int p = 0; p < a.size() + b.size() - 1; p++) {
                BigInteger sum = BigInteger.ZERO;
                for (int q = Math.max(0, p - b.size() + 1); q < a.size() && q <= p; q++) {
                    sum = sum.add(a.get(q).multiply(b.get(p - q)));
                }
                out.add(sum);
            }
            return out;
        }

        /** null if it doesn't go without rest. */
        private static List<BigInteger> quotient(List<BigInteger> a, List<BigInteger> b) {
            if (a.size() < b.size()) {
                return null;
            }
            List<BigInteger> rest = new ArrayList<>(a);
            List<BigInteger> out = new ArrayList<>();
            for (int p = a.size() - b.size(); p >= 0; p--) {
                BigInteger[] parts = rest.get(p + b.size() - 1).divideAndRemainder(b.get(b.size() - 1));
                if (parts[1].signum() != 0) {
                    return null;
                }
                out.add(0, parts[0]);
                for (int q = 0; q < b.size(); q++) {
                    rest.set(p + q, rest.get(p + q).subtract(parts[0].multiply(b.get(q))));
                }
            }
            return trimmed(rest).isEmpty() ? out : null;
        }

        int times(int i, int j, int k) {
            if (!place(i) || !place(j) || !place(k)) {
                return no(-2);
            }
            return put(1, product(state.store.get(i), state.store.get(j)), k);
        }

        int by(int i, int j, int k) {
            if (!place(i) || !place(j) || !place(k)) {
                return no(-2);
            }
            List<BigInteger> out = quotient(state.store.get(i), state.store.get(j));
            return out == null ? no(-4) : put(2, out, k);
        }

        int plus(int how, int i, int j, int k) {
            if (how != 0 && how != 1) {
                return no(-1);
            }
            if (!place(i) || !place(j) || !place(k)) {
                return no(-2);
            }
            List<BigInteger> out = new ArrayList<>();
            for (int p = 0; p < 13; p++) {
                BigInteger b = BigInteger.valueOf(coefficient(j, p));
                out.add(BigInteger.valueOf(coefficient(i, p)).add(how == 0 ? b : b.negate()));
            }
            return put(3, out, k);
        }

        int turn(int how, int i, int k) {
            if (how < 0 || how > 5) {
                return no(-1);
            }
            if (!place(i) || !place(k)) {
                return no(-2);
            }
            List<BigInteger> poly = state.store.get(i);
            List<BigInteger> out = new ArrayList<>();
            for (int p = 0; p < poly.size(); p++) {
                BigInteger c = poly.get(p);
                if (how == 0) {
                    out.add(0, c);
                } else if (how == 1) {
                    out.add(p % 2 == 0 ? c : c.negate());
                } else if (how == 2) {
                    out.add(c);
                    out.add(BigInteger.ZERO);
                } else if (how == 3) {
                    out.add(c.negate());
                } else if (how == 4 && p > 0) {
                    out.add(c.multiply(BigInteger.valueOf(p)));
                }
            }
            if (how == 5) {
                out = squared(poly);
            }
            return out == null ? no(-5) : put(4, out, k);
        }

        private static boolean isLong(BigInteger x) {
            return x.compareTo(MOST_LONG) <= 0 && x.compareTo(LEAST_LONG) >= 0;
        }

        /** null if BEYOND. */
        private static List<BigInteger> squared(List<BigInteger> a) {
            int n = a.size() - 1;
            List<BigInteger> out = new ArrayList<>();
            for (int j = 0; j <= n; j++) {
                BigInteger sum = BigInteger.ZERO;
                for (int i = 0; i <= n; i++) {
                    int l = 2 * j - i;
                    if (l < 0 || l > n) {
                        continue;
                    }
                    BigInteger product = a.get(i).multiply(a.get(l));
                    sum = (l + n) % 2 != 0 ? sum.subtract(product) : sum.add(product);
                    if (!isLong(product) || !isLong(sum)) {
                        return null;
                    }
                }
                out.add(sum);
            }
            return out;
        }

        /** null if the degree is above 12 or there is none; x for 0. */
        private static List<BigInteger> circleOf(int n) {
            if (n < 0 || n > 42) {
                return null;
            }
            List<BigInteger> whole = fullCircleOf(n);
            return whole.size() > 13 ? null : whole;
        }

        private static final List<List<BigInteger>> CIRCLES = new ArrayList<>();

        private static List<BigInteger> fullCircleOf(int n) {
            while (CIRCLES.size() <= n) {
                int next = CIRCLES.size();
                List<BigInteger> out = new ArrayList<>();
                for (int p = 0; p <= Math.max(1, next); p++) {
                    out.add(BigInteger.ZERO);
                }
                out.set(Math.max(1, next), BigInteger.ONE);
                if (next > 0) {
                    out.set(0, BigInteger.ONE.negate());
                }
                for (int d = 1; d < next; d++) {
                    if (next % d == 0) {
                        out = quotient(out, CIRCLES.get(d));
                    }
                }
                CIRCLES.add(out);
            }
            return CIRCLES.get(n);
        }

        int cyclotomic(int n, int k) {
            if (n < 1 || circleOf(n) == null) {
                return no(-1);
            }
            return place(k) ? put(5, circleOf(n), k) : no(-2);
        }

        private static List<BigInteger> coreOf(List<BigInteger> poly) {
            List<BigInteger> out = poly;
            for (int n = 0; n <= 42; n++) {
                List<BigInteger> circle = circleOf(n);
                List<BigInteger> next = circle == null ? null : quotient(out, circle);
                while (next != null) {
                    out = next;
                    next = quotient(out, circle);
                }
            }
            if (out.get(out.size() - 1).signum() < 0) {
                out = product(out, of(BigInteger.ONE.negate()));
            }
            return out;
        }

        private static boolean isOne(List<BigInteger> poly) {
            return coreOf(poly).equals(of(BigInteger.ONE));
        }

        int core(int i, int k) {
            return place(i) && place(k) ? put(6, coreOf(state.store.get(i)), k) : no(-2);
        }

        int search(int degree, int height, int level, int v) {
            if (degree < 2 || degree > 10 || degree % 2 != 0 || height < 1 || height > 3 || level < 0
                    || level > 6 || v < 1000 || v > 9999) {
                return no(-1);
            }
            if (Math.pow(2 * height + 1, degree / 2) > 3125.5) {
                return no(-4);
            }
            remember(7);
            state.found.clear();
            state.foundDegree = degree;
            state.inAll = 0;
            state.looked = 0;
            state.ones = 0;
            look(new int[degree / 2], 0, degree, height, level, v);
            return yes(state.inAll);
        }

        private void look(int[] half, int at, int degree, int height, int level, int v) {
            if (at < half.length) {
                for (int c = -height; c <= height; c++) {
                    half[at] = c;
                    look(half, at + 1, degree, height, level, v);
                }
                return;
            }
            int[] entry = new int[16];
            List<BigInteger> poly = new ArrayList<>();
            for (int p = 0; p <= degree; p++) {
                int near = Math.min(p, degree - p);
                entry[p] = near == 0 ? 1 : half[near - 1];
                poly.add(BigInteger.valueOf(entry[p]));
            }
            state.looked++;
            if (isOne(poly)) {
                state.ones++;
                return;
            }
            int by = bestUpTo(poly, level);
            if (highOf(poly, by) > v) {
                return;
            }
            state.inAll++;
            if (state.found.size() < 30) {
                entry[13] = highOf(poly, by);
                entry[14] = lowOf(poly, by);
                entry[15] = by;
                state.found.add(entry);
            }
        }

        int take(int i, int k) {
            if (i < 0 || i >= state.found.size() || !place(k)) {
                return no(-2);
            }
            List<BigInteger> out = new ArrayList<>();
            for (int p = 0; p <= state.foundDegree; p++) {
                out.add(BigInteger.valueOf(state.found.get(i)[p]));
            }
            return put(8, out, k);
        }

        int undo() {
            if (past.isEmpty()) {
                return no(-4);
            }
            state = past.remove(past.size() - 1);
            return yes(kinds.remove(kinds.size() - 1));
        }

        int image(int k) {
            if (k != 0 && k != 1) {
                return no(-1);
            }
            images[k] = state.copy();
            return yes(state.degrees());
        }

        int back(int k) {
            if (k != 0 && k != 1) {
                return no(-1);
            }
            if (images[k] == null) {
                return no(-2);
            }
            state = images[k].copy();
            past.clear();
            kinds.clear();
            return yes(state.degrees());
        }

        int coefficient(int i, int power) {
            if (!place(i) || power < 0 || power > 12) {
                return Integer.MIN_VALUE;
            }
            List<BigInteger> poly = state.store.get(i);
            return power < poly.size() ? poly.get(power).intValue() : 0;
        }

        int of(int i, int what) {
            if (!place(i)) {
                return -1;
            }
            List<BigInteger> poly = state.store.get(i);
            BigInteger sum = BigInteger.ZERO;
            BigInteger most = BigInteger.ZERO;
            BigInteger squares = BigInteger.ZERO;
            BigInteger common = BigInteger.ZERO;
            List<BigInteger> behind = new ArrayList<>();
            List<Integer> signs = new ArrayList<>();
            for (BigInteger c : poly) {
                sum = sum.add(c.abs());
                most = most.max(c.abs());
                squares = squares.add(c.multiply(c));
                common = common.gcd(c);
                behind.add(0, c);
                if (c.signum() != 0) {
                    signs.add(c.signum());
                }
            }
            int changes = 0;
            for (int s = 1; s < signs.size(); s++) {
                changes += signs.get(s).equals(signs.get(s - 1)) ? 0 : 1;
            }
            switch (what) {
                case 0: return poly.size() - 1;
                case 1: return sum.intValueExact();
                case 2: return most.intValueExact();
                case 3: return squares.intValueExact();
                case 4: return behind.equals(poly) ? 1 : 0;
                case 5: return isOne(poly) ? 1 : 0;
                case 6: return signs.size();
                case 7: return common.intValueExact();
                case 8: return changes;
                case 9: return bestUpTo(poly, 6);
                default: return -1;
            }
        }

        /** null if BEYOND. */
        private static List<BigInteger> levelOf(List<BigInteger> poly, int k) {
            List<BigInteger> now = poly;
            for (int l = 0; l < k && now != null; l++) {
                now = squared(now);
            }
            return now;
        }

        private static int bestUpTo(List<BigInteger> poly, int k) {
            int best = k;
            while (levelOf(poly, best) == null) {
                best--;
            }
            return best;
        }

        long level(int i, int k, int power) {
            if (!place(i) || k < 0 || k > 6 || power < 0 || power > 12) {
                return Long.MIN_VALUE;
            }
            List<BigInteger> row = levelOf(state.store.get(i), k);
            if (row == null) {
                return Long.MIN_VALUE;
            }
            return power < row.size() ? row.get(power).longValueExact() : 0;
        }

        private static BigInteger ways(int n, int i) {
            BigInteger out = BigInteger.ONE;
            for (int f = 1; f <= i; f++) {
                out = out.multiply(BigInteger.valueOf(n - f + 1)).divide(BigInteger.valueOf(f));
            }
            return out;
        }

        private static int lowOf(List<BigInteger> poly, int k) {
            List<BigInteger> row = levelOf(poly, k);
            int n = row.size() - 1;
            int low = 0;
            int high = 200_000_000;
            while (low < high) {
                int middle = low + (high - low + 1) / 2;
                BigInteger power = BigInteger.valueOf(middle).pow(1 << k);
                boolean within = false;
                for (int i = 0; i <= n; i++) {
                    BigInteger right = row.get(i).abs().multiply(THOUSAND.pow(1 << k));
                    within |= power.multiply(ways(n, i)).compareTo(right) <= 0;
                }
                if (within) {
                    low = middle;
                } else {
                    high = middle - 1;
                }
            }
            return low;
        }

        private static int highOf(List<BigInteger> poly, int k) {
            BigInteger sum = BigInteger.ZERO;
            for (BigInteger c : levelOf(poly, k)) {
                sum = sum.add(c.multiply(c));
            }
            BigInteger right = sum.multiply(THOUSAND.pow(2 << k));
            int low = 0;
            int high = 200_000_000;
            while (low < high) {
                int middle = low + (high - low) / 2;
                if (BigInteger.valueOf(middle).pow(2 << k).compareTo(right) >= 0) {
                    high = middle;
                } else {
                    low = middle + 1;
                }
            }
            return low;
        }

        int low(int i, int k) {
            boolean none = !place(i) || k < 0 || k > 6 || levelOf(state.store.get(i), k) == null;
            return none ? -1 : lowOf(state.store.get(i), k);
        }

        int high(int i, int k) {
            boolean none = !place(i) || k < 0 || k > 6 || levelOf(state.store.get(i), k) == null;
            return none ? -1 : highOf(state.store.get(i), k);
        }

        int enclosed(int i, int what) {
            if (!place(i) || what < 0 || what > 3) {
                return -1;
            }
            int best = -1;
            int at = -1;
            for (int k = 0; k <= bestUpTo(state.store.get(i), 6); k++) {
                int next = what % 2 == 0 ? low(i, k) : high(i, k);
                if (at == -1 || (what % 2 == 0 ? next > best : next < best)) {
                    best = next;
                    at = k;
                }
            }
            return what < 2 ? best : at;
        }

        int often(int i, int n) {
            if (!place(i) || circleOf(n) == null) {
                return -1;
            }
            int many = 0;
            List<BigInteger> left = quotient(state.store.get(i), circleOf(n));
            while (left != null) {
                many++;
                left = quotient(left, circleOf(n));
            }
            return many;
        }

        private BigInteger exactValue(int i, int x, boolean[] beyond) {
            List<BigInteger> poly = state.store.get(i);
            BigInteger sum = poly.get(poly.size() - 1);
            for (int p = poly.size() - 2; p >= 0; p--) {
                BigInteger product = sum.multiply(BigInteger.valueOf(x));
                sum = product.add(poly.get(p));
                beyond[0] |= !isLong(product) || !isLong(sum);
            }
            return sum;
        }

        long value(int i, int x) {
            if (!place(i) || x < -50 || x > 50) {
                return Long.MIN_VALUE;
            }
            boolean[] beyond = new boolean[1];
            BigInteger out = exactValue(i, x, beyond);
            return beyond[0] ? Long.MIN_VALUE : out.longValueExact();
        }

        int roots(int i, int what) {
            if (!place(i) || what < 0 || what > 2) {
                return Integer.MIN_VALUE;
            }
            List<Integer> roots = new ArrayList<>();
            for (int x = -50; x <= 50; x++) {
                if (exactValue(i, x, new boolean[1]).signum() == 0) {
                    roots.add(x);
                }
            }
            if (what == 0) {
                return roots.size();
            }
            if (roots.isEmpty()) {
                return Integer.MIN_VALUE;
            }
            return what == 1 ? roots.get(0) : roots.get(roots.size() - 1);
        }

        int compare(int i, int j, int k) {
            if (!place(i) || !place(j) || k < 0 || k > 6) {
                return -2;
            }
            int a = bestUpTo(state.store.get(i), k);
            int b = bestUpTo(state.store.get(j), k);
            if (low(i, a) > high(j, b)) {
                return 1;
            }
            return low(j, b) > high(i, a) ? -1 : 0;
        }

        int surely(int i, int k, int v) {
            if (!place(i) || k < 0 || k > 6 || v < 0 || v > 99_999_999) {
                return -2;
            }
            int best = bestUpTo(state.store.get(i), k);
            if (high(i, best) <= v) {
                return 1;
            }
            return low(i, best) > v ? 0 : -1;
        }

        int least(int set) {
            if (set < 0 || set > 255) {
                return -1;
            }
            for (int i = 0; i < 8; i++) {
                boolean below = (set & 1 << i) != 0;
                for (int j = 0; j < 8 && below; j++) {
                    below = j == i || (set & 1 << j) == 0 || enclosed(i, 1) < enclosed(j, 0);
                }
                if (below) {
                    return i;
                }
            }
            return -1;
        }

        int found(int i, int what) {
            boolean there = i >= 0 && i < state.found.size();
            if (!there || what < 0 || what > 15 || what > state.foundDegree && what < 13) {
                return Integer.MIN_VALUE;
            }
            return state.found.get(i)[what];
        }

        int smallest(int what) {
            if (state.found.isEmpty() || what < 0 || what > 2) {
                return -1;
            }
            int least = Integer.MAX_VALUE;
            for (int[] entry : state.found) {
                least = Math.min(least, entry[13]);
            }
            int many = 0;
            int first = -1;
            for (int i = state.found.size() - 1; i >= 0; i--) {
                if (state.found.get(i)[13] == least) {
                    many++;
                    first = i;
                }
            }
            return new int[] {many, first, least}[what];
        }

        int count(int what) {
            if (what < 0 || what > 18) {
                return -1;
            }
            if (what < 8) {
                return state.store.get(what).size() - 1;
            }
            int[] told = {state.found.size(), state.inAll, state.looked, state.ones, past.size(), tape.size(),
                refused[1], refused[2], refused[4], refused[5], refused[6]};
            return told[what - 8];
        }
    }
}
