/**
 * The boundary cases of the document, sentence by sentence: too small, too large, empty, full,
 * wrap-around, refused. Each has a method of its own; what is due was reckoned outside the class,
 * with whole numbers without bound, but for checks that hold one call against another.
 */
public final class BoundaryTest {
    private static final int MIN = Integer.MIN_VALUE;
    private static final int MAX = Integer.MAX_VALUE;
    private static final long NO_LONG = Long.MIN_VALUE;
    private static final int[] NO_PLACES = {-1, 8, 9, 16, 255, 256, MIN, MIN + 1, MAX};
    private static String sentence = "";
    private static int checks = 0;
    private static int wrong = 0;

    public static void main(String[] args) {
        Terms.all();
        Texts.all();
        Levels.all();
        Circles.all();
        Acts.all();
        Searches.all();
        Past.all();
        Asks.all();
        Counts.all();
        System.out.println(checks + " checks of boundary cases, " + wrong + " wrong");
        if (wrong != 0) {
            System.exit(1);
        }
    }

    /** Which sentence the checks that follow stand for. */
    private static void says(String what) {
        sentence = what;
    }

    private static void due(String call, long got, long want) {
        checks++;
        if (got != want) {
            wrong++;
            System.out.println("[" + sentence + "] " + call + " answered " + got + ", due is " + want);
        }
    }

    private static void due(String call, String got, String want) {
        checks++;
        if (!got.equals(want)) {
            wrong++;
            System.out.println("[" + sentence + "] " + call + " answered '" + got + "', due is '" + want + "'");
        }
    }

    /** An object with its calls counted: the document promises nothing behind the 512th. */
    private static final class Box {
        private final MahlerBox inside = new MahlerBox();
        private int calls = 0;

        private MahlerBox next() {
            calls++;
            if (calls == 513) {
                due("calls of one object", calls, 512);
            }
            return inside;
        }

        int feed(int a, int b, int c, int d, int e) {
            return next().feed(a, b, c, d, e);
        }

        int end(int n) {
            return next().end(n);
        }

        int tape(int i) {
            return next().tape(i);
        }

        int read(int i) {
            return next().read(i);
        }

        int fault() {
            return next().fault();
        }

        int listing(int i) {
            return next().listing(i);
        }

        int times(int i, int j, int k) {
            return next().times(i, j, k);
        }

        int by(int i, int j, int k) {
            return next().by(i, j, k);
        }

        int plus(int how, int i, int j, int k) {
            return next().plus(how, i, j, k);
        }

        int turn(int how, int i, int k) {
            return next().turn(how, i, k);
        }

        int cyclotomic(int n, int k) {
            return next().cyclotomic(n, k);
        }

        int core(int i, int k) {
            return next().core(i, k);
        }

        int search(int degree, int height, int level, int v) {
            return next().search(degree, height, level, v);
        }

        int take(int i, int k) {
            return next().take(i, k);
        }

        int undo() {
            return next().undo();
        }

        int image(int k) {
            return next().image(k);
        }

        int back(int k) {
            return next().back(k);
        }

        int coefficient(int i, int power) {
            return next().coefficient(i, power);
        }

        int of(int i, int what) {
            return next().of(i, what);
        }

        long level(int i, int k, int power) {
            return next().level(i, k, power);
        }

        int low(int i, int k) {
            return next().low(i, k);
        }

        int high(int i, int k) {
            return next().high(i, k);
        }

        int enclosed(int i, int what) {
            return next().enclosed(i, what);
        }

        int often(int i, int n) {
            return next().often(i, n);
        }

        long value(int i, int x) {
            return next().value(i, x);
        }

        int roots(int i, int what) {
            return next().roots(i, what);
        }

        int compare(int i, int j, int k) {
            return next().compare(i, j, k);
        }

        int surely(int i, int k, int v) {
            return next().surely(i, k, v);
        }

        int least(int set) {
            return next().least(set);
        }

        int found(int i, int what) {
            return next().found(i, what);
        }

        int smallest(int what) {
            return next().smallest(what);
        }

        int count(int what) {
            return next().count(what);
        }

        int status() {
            return next().status();
        }
    }

    /** The text alone on the tape. */
    private static void write(Box box, String text) {
        box.end(0);
        for (int at = 0; at < text.length(); at += 20) {
            int[] words = new int[5];
            for (int i = 0; i < 20 && at + i < text.length(); i++) {
                words[i / 4] |= text.charAt(at + i) << 24 - i % 4 * 8;
            }
            box.feed(words[0], words[1], words[2], words[3], words[4]);
        }
        box.end(text.length());
    }

    private static int put(Box box, int place, String text) {
        write(box, text);
        return box.read(place);
    }

    private static Box with(String... texts) {
        Box box = new Box();
        for (int i = 0; i < texts.length; i++) {
            due("read '" + texts[i] + "' goes", Math.min(0, put(box, i, texts[i])), 0);
        }
        return box;
    }

    private static String tape(Box box) {
        StringBuilder text = new StringBuilder();
        for (int i = 0; i < box.count(13); i++) {
            text.append((char) box.tape(i));
        }
        return text.toString();
    }

    /** By its COEFFICIENTS alone, so that the tape stays. */
    private static String poly(Box box, int place) {
        StringBuilder text = new StringBuilder();
        for (int p = box.of(place, 0); p >= 0; p--) {
            text.append(box.coefficient(place, p)).append(p == 0 ? "" : " ");
        }
        return text.toString();
    }

    /** All that undo() and back() bring back. */
    private static String kept(Box box) {
        StringBuilder text = new StringBuilder();
        for (int i = 0; i < 8; i++) {
            text.append(poly(box, i)).append("; ");
        }
        for (int what = 8; what <= 11; what++) {
            text.append(box.count(what)).append(' ');
        }
        for (int i = 0; i <= box.count(8); i++) {
            for (int what = 0; what <= 15; what++) {
                text.append(box.found(i, what)).append(' ');
            }
        }
        return text.toString();
    }

    /** All that can be told but for what is told of REFUSED calls. */
    private static String all(Box box) {
        return kept(box) + "; " + box.count(12) + "; " + tape(box) + "; " + box.fault();
    }

    private static String nines(String sign) {
        StringBuilder text = new StringBuilder();
        for (int p = 12; p >= 0; p--) {
            text.append(p == 12 && sign.equals("+") ? "" : sign).append("9999");
            text.append(p == 0 ? "" : p == 1 ? "x" : "x^" + p);
        }
        return text.toString();
    }

    /** Terms I: POLYNOMIALS, STORE, REFUSED. */
    private static final class Terms {
        static void all() {
            degreeTwelveAtMost();
            coefficientsInStore();
            neverNothing();
            placesOfActs();
            placesOfAsks();
            firstInOrder();
            refusedChangesNothing();
            refusedLeavesUndoAndImages();
        }

        private static void degreeTwelveAtMost() {
            says("I: DEGREE n 0 .. 12");
            Box box = with("x^12", "x^6", "x^7", "x", "1");
            due("12 by read", box.of(0, 0), 12);
            due("6 and 6", box.times(1, 1, 7), 12);
            due("6 and 7", box.times(1, 2, 7), -5);
            due("12 and 1", box.times(0, 3, 7), -5);
            due("12 and 0", box.times(0, 4, 7), 12);
            due("12 and 12", box.times(0, 0, 7), -5);
            due("6 of x x", box.turn(2, 1, 7), 12);
            due("7 of x x", box.turn(2, 2, 7), -5);
            due("12 of x x", box.turn(2, 0, 7), -5);
            due("0 of x x", box.turn(2, 4, 7), 0);
            due("12 SQUARED", box.turn(5, 0, 7), 12);
        }

        private static void coefficientsInStore() {
            says("I: in STORE, if all are -9,999 .. 9,999");
            Box box = with("9999", "-9999", "1", "x^12-9999x^11+9999");
            due("9,999", box.coefficient(0, 0), 9999);
            due("-9,999", box.coefficient(1, 0), -9999);
            due("both inside", box.coefficient(3, 11), -9999);
            due("9,999 and 1", box.plus(0, 0, 2, 7), -5);
            due("-9,999 less 1", box.plus(1, 1, 2, 7), -5);
            due("9,999 less 1", box.plus(1, 0, 2, 7), 0);
            due("9,998", box.coefficient(7, 0), 9998);
            due("9,998 and 1", box.plus(0, 7, 2, 7), 0);
            due("9,999", box.coefficient(7, 0), 9999);
            due("-9,999 and 9,999 less 1", box.plus(0, 1, 2, 7), 0);
            due("-9,998", box.coefficient(7, 0), -9998);
            due("9,999 times -1", box.turn(3, 0, 7), 0);
            due("-9,999", box.coefficient(7, 0), -9999);
            due("-9,999 times -1", box.turn(3, 1, 7), 0);
            due("9,999", box.coefficient(7, 0), 9999);
        }

        private static void neverNothing() {
            says("I: never nothing");
            Box box = with("x^3-2x", "7");
            due("less itself", box.plus(1, 0, 0, 0), -5);
            box.turn(3, 0, 2);
            due("and times -1", box.plus(0, 0, 2, 0), -5);
            due("derivative of a number", box.turn(4, 1, 0), -5);
            due("derivative of 1", box.turn(4, 7, 7), -5);
            due("by a TEXT", put(box, 0, "0"), -6);
            due("by a TEXT", put(box, 0, "0x^12+0x-0"), -6);
            due("STORE stays", poly(box, 0), "1 0 -2 0");
        }

        private static void placesOfActs() {
            says("I: REFUSED by -2 there is no such place of STORE");
            Box box = with("x", "x", "x");
            box.search(2, 3, 0, 9999);
            int refused = 0;
            for (int no : NO_PLACES) {
                due("read(" + no + ")", box.read(no), -2);
                due("listing(" + no + ")", box.listing(no), -2);
                due("times(" + no + ", 0, 0)", box.times(no, 0, 0), -2);
                due("times(0, " + no + ", 0)", box.times(0, no, 0), -2);
                due("times(0, 0, " + no + ")", box.times(0, 0, no), -2);
                due("by(" + no + ", 0, 0)", box.by(no, 0, 0), -2);
                due("by(0, " + no + ", 0)", box.by(0, no, 0), -2);
                due("by(0, 0, " + no + ")", box.by(0, 0, no), -2);
                due("plus(0, " + no + ", 0, 0)", box.plus(0, no, 0, 0), -2);
                due("plus(0, 0, " + no + ", 0)", box.plus(0, 0, no, 0), -2);
                due("plus(1, 0, 0, " + no + ")", box.plus(1, 0, 0, no), -2);
                due("cyclotomic(1, " + no + ")", box.cyclotomic(1, no), -2);
                due("core(" + no + ", 0)", box.core(no, 0), -2);
                due("core(0, " + no + ")", box.core(0, no), -2);
                due("take(0, " + no + ")", box.take(0, no), -2);
                refused += 15;
                for (int how = 0; how <= 5; how++) {
                    due("turn(" + how + ", " + no + ", 0)", box.turn(how, no, 0), -2);
                    due("turn(" + how + ", 0, " + no + ")", box.turn(how, 0, no), -2);
                    refused += 2;
                }
                due("count(15)", box.count(15), refused);
                due("status()", box.status(), -2);
            }
            due("none by others", box.count(14) + box.count(16) + box.count(17) + box.count(18), 0);
        }

        private static void placesOfAsks() {
            says("I: places 0 .. 7, asked for others");
            Box box = new Box();
            for (int no : NO_PLACES) {
                due("coefficient(" + no + ", 0)", box.coefficient(no, 0), MIN);
                due("level(" + no + ", 0, 0)", box.level(no, 0, 0), NO_LONG);
                due("low(" + no + ", 0)", box.low(no, 0), -1);
                due("high(" + no + ", 0)", box.high(no, 0), -1);
                due("often(" + no + ", 0)", box.often(no, 0), -1);
                due("value(" + no + ", 0)", box.value(no, 0), NO_LONG);
                due("compare(" + no + ", 0, 0)", box.compare(no, 0, 0), -2);
                due("compare(0, " + no + ", 0)", box.compare(0, no, 0), -2);
                due("surely(" + no + ", 0, 0)", box.surely(no, 0, 0), -2);
                for (int what = 0; what <= 9; what++) {
                    due("of(" + no + ", " + what + ")", box.of(no, what), -1);
                }
                for (int what = 0; what <= 3; what++) {
                    due("enclosed(" + no + ", " + what + ")", box.enclosed(no, what), -1);
                }
                for (int what = 0; what <= 2; what++) {
                    due("roots(" + no + ", " + what + ")", box.roots(no, what), MIN);
                }
            }
            due("none of these is REFUSED", box.count(14) + box.count(15), 0);
            due("status()", box.status(), 0);
            for (int i = 0; i <= 7; i++) {
                due("coefficient(" + i + ", 0)", box.coefficient(i, 0), 1);
                due("of(" + i + ", 9)", box.of(i, 9), 6);
                due("roots(" + i + ", 0)", box.roots(i, 0), 0);
                due("read(" + i + ")", put(box, i, "x^" + (i + 1)), i + 1);
            }
        }

        private static void firstInOrder() {
            says("I: the first of these in that order");
            Box box = with("9999x^12", "2", "9999x^3+x^2-9999x-1", "x-1", "x+3");
            due("plus: -1, -2", box.plus(2, 8, 0, 0), -1);
            due("plus: -1, -5", box.plus(-1, 0, 0, 0), -1);
            due("plus: -2, -5", box.plus(0, 0, 0, 8), -2);
            due("plus: -2, -5, nothing left", box.plus(1, 0, 0, -1), -2);
            due("turn: -1, -2", box.turn(6, 8, 8), -1);
            due("turn: -2, -5", box.turn(4, 1, 8), -2);
            due("turn: -2, -5, DEGREE", box.turn(2, 0, 8), -2);
            due("times: -2, -5", box.times(0, 0, 8), -2);
            due("by: -2, -4", box.by(1, 0, 8), -2);
            due("by: -2, -5", box.by(2, 3, 8), -2);
            due("by: -5 alone", box.by(2, 3, 7), -5);
            due("by: -4 ahead of what is too great", box.by(2, 4, 7), -4);
            due("cyclotomic: -1, -2", box.cyclotomic(17, 8), -1);
            due("cyclotomic: -1, -2", box.cyclotomic(0, -1), -1);
            due("search: -1, -4, LEVEL", box.search(10, 3, 7, 2000), -1);
            due("search: -1, -4, v", box.search(10, 3, 0, 999), -1);
            due("search: -4 alone", box.search(10, 3, 6, 9999), -4);
            put(box, 2, "5000x^4+5000x^3-x^2-9998x-1");
            due("core: -2, -5", box.core(2, 8), -2);
            due("core: -5 alone", box.core(2, 7), -5);
            due("back: -1, -2", box.back(2), -1);
            write(box, "y");
            due("read: -2, -6", box.read(8), -2);
            due("read: -6 alone", box.read(0), -6);
        }

        /** All that can be REFUSED, with what it is REFUSED by. */
        private static int[][] refusals(Box box) {
            return new int[][] {
                {box.read(8), -2}, {box.listing(8), -2}, {box.times(0, 0, 1), -5}, {box.times(8, 0, 1), -2},
                {box.by(1, 0, 2), -4}, {box.by(1, 0, 8), -2}, {box.by(2, 3, 1), -5}, {box.plus(2, 0, 0, 0), -1},
                {box.plus(0, 0, 0, 0), -5}, {box.plus(1, 0, 0, 0), -5}, {box.plus(0, 8, 0, 0), -2},
                {box.turn(6, 0, 0), -1}, {box.turn(0, 8, 0), -2}, {box.turn(2, 0, 1), -5}, {box.turn(4, 1, 0), -5},
                {box.turn(5, 0, 1), -5}, {box.cyclotomic(19, 0), -1}, {box.cyclotomic(3, 8), -2},
                {box.core(8, 0), -2}, {box.core(4, 0), -5}, {box.search(3, 1, 0, 2000), -1},
                {box.search(10, 3, 0, 2000), -4}, {box.take(2, 0), -2}, {box.take(0, 8), -2}, {box.image(2), -1},
                {box.back(2), -1}, {box.back(1), -2}};
        }

        private static Box full() {
            Box box = with("9999x^12", "2", "9999x^3+x^2-9999x-1", "x-1", "5000x^4+5000x^3-x^2-9998x-1");
            box.search(2, 3, 0, 9999);
            box.image(0);
            box.take(1, 5);
            write(box, "x^3 y");
            return box;
        }

        private static void refusedChangesNothing() {
            says("I: what is REFUSED changes nothing but what is told of it");
            Box box = full();
            String before = BoundaryTest.all(box);
            int[] by = new int[7];
            int at = 0;
            for (int[] row : refusals(box)) {
                due("refusal " + at, row[0], row[1]);
                by[-row[1]]++;
                at++;
            }
            due("all that can be told", BoundaryTest.all(box), before);
            due("by -1", box.count(14), by[1]);
            due("by -2", box.count(15), by[2]);
            due("by -4", box.count(16), by[4]);
            due("by -5", box.count(17), by[5]);
            due("by -6", box.count(18), 0);
            due("read() by -6", box.read(0), -6);
            due("STORE stays", kept(box), kept(full()));
            due("FAULT is told", box.fault(), 4);
            due("by -6", box.count(18), 1);
        }

        private static void refusedLeavesUndoAndImages() {
            says("I: what is REFUSED changes nothing that can be undone or was kept");
            for (int undos = 0; undos <= 9; undos++) {
                Box box = full();
                Box other = full();
                refusals(box);
                box.read(0);
                for (int i = 0; i < undos; i++) {
                    due("undo()", box.undo(), other.undo());
                }
                due("after " + undos + " undo()", kept(box), kept(other));
                due("back(0)", box.back(0), other.back(0));
                due("after back(0)", kept(box), kept(other));
                due("back(1)", box.back(1), -2);
            }
        }
    }

    /** TEXT, TAPE and FAULT: terms I and promises 2 to 7. */
    private static final class Texts {
        static void all() {
            feedHighestFirst();
            feedToFourHundred();
            endsAndBytes();
            signs();
            numbers();
            powers();
            blanks();
            likePowers();
            wrongBytes();
            endsTooSoon();
            nothingOrTooGreat();
            readKeepsOrEmptiesTheTape();
            faultOfTheLatest();
            fourHundredBytesRead();
            listingForms();
            longestListing();
        }

        private static void feedHighestFirst() {
            says("2: four of each number, the highest first");
            Box box = new Box();
            due("feed", box.feed(MIN, MAX, -1, 0, 0x80FF017F), 20);
            int[] bytes = {128, 0, 0, 0, 127, 255, 255, 255, 255, 255, 255, 255, 0, 0, 0, 0, 128, 255, 1, 127};
            for (int i = 0; i < 20; i++) {
                due("tape(" + i + ")", box.tape(i), bytes[i]);
            }
        }

        private static void feedToFourHundred() {
            says("2: NONE, if there would be more than 400");
            Box box = new Box();
            for (int times = 1; times <= 20; times++) {
                due("feed " + times, box.feed(times, 0, 0, 0, times), 20 * times);
            }
            due("tape(399)", box.tape(399), 20);
            due("full", box.feed(-1, -1, -1, -1, -1), -1);
            due("it stays full", box.count(13), 400);
            due("and as it was", box.tape(399), 20);
            for (int length = 381; length <= 399; length++) {
                box.end(0);
                for (int times = 0; times < 20; times++) {
                    box.feed(0, 0, 0, 0, 0);
                }
                box.end(length);
                due("from " + length, box.feed(-1, -1, -1, -1, -1), -1);
                due("it stays", box.count(13), length);
                due("its last byte", box.tape(length - 1), 0);
            }
            box.end(380);
            due("from 380", box.feed(-1, -1, -1, -1, -1), 400);
            due("NONE is not REFUSED", box.count(14) + box.status(), 0);
        }

        private static void endsAndBytes() {
            says("3, 4: its first n bytes alone; NONE");
            Box box = new Box();
            due("empty: end(0)", box.end(0), 0);
            due("empty: end(1)", box.end(1), -1);
            due("empty: end(-1)", box.end(-1), -1);
            due("empty: tape(0)", box.tape(0), -1);
            box.feed(0x01020304, 0x05060708, 0, 0, 0xFFFFFFFF);
            due("tape(19)", box.tape(19), 255);
            due("tape(20)", box.tape(20), -1);
            due("tape(-1)", box.tape(-1), -1);
            due("tape(MIN)", box.tape(MIN), -1);
            due("tape(MAX)", box.tape(MAX), -1);
            due("end(21)", box.end(21), -1);
            due("end(MAX)", box.end(MAX), -1);
            due("end(MIN)", box.end(MIN), -1);
            due("it stays", box.count(13), 20);
            due("end(20)", box.end(20), 20);
            due("end(7)", box.end(7), 7);
            due("tape(6)", box.tape(6), 7);
            due("tape(7)", box.tape(7), -1);
            due("end(8)", box.end(8), -1);
            due("feed behind", box.feed(0x0A000000, 0, 0, 0, 0), 27);
            due("tape(6)", box.tape(6), 7);
            due("tape(7)", box.tape(7), 10);
            due("end(0)", box.end(0), 0);
            due("tape(0)", box.tape(0), -1);
            due("NONE is not REFUSED", box.count(14) + box.status(), 0);
        }

        private static void reads(String text, String want) {
            Box box = new Box();
            int degree = put(box, 3, text);
            due("read '" + text + "'", poly(box, 3), want);
            due("its DEGREE", degree, box.of(3, 0));
            due("its FAULT", box.fault(), -1);
            due("its status", box.status(), 0);
        }

        private static void fails(String text, int fault) {
            Box box = new Box();
            due("read '" + text + "'", put(box, 3, text), -6);
            due("fault of '" + text + "'", box.fault(), fault);
            due("STORE stays", poly(box, 3), "1");
            due("status()", box.status(), -6);
            due("the TAPE is empty", box.count(13), 0);
        }

        private static void signs() {
            says("I: [SIGN] TERM {SIGN TERM}");
            reads("x", "1 0");
            reads("+x", "1 0");
            reads("-x", "-1 0");
            reads("+1", "1");
            reads("-1", "-1");
            reads("x-1", "1 -1");
            reads("-x-1", "-1 -1");
            fails("++x", 1);
            fails("--x", 1);
            fails("+-x", 1);
            fails("x+-1", 2);
            fails("x-+1", 2);
            fails("1x2", 2);
            fails("xx", 1);
            fails("x1", 1);
            fails("x^2x", 3);
            fails("2x3x", 2);
        }

        private static void numbers() {
            says("I: NUMBERS: digits, as long as they go, 0 .. 9,999");
            reads("9999", "9999");
            reads("-9999", "-9999");
            reads("9999x", "9999 0");
            reads("0+x", "1 0");
            reads("0000000009999", "9999");
            reads("00000000000000000000000000000000000001", "1");
            fails("10000", 0);
            fails("-10000", 1);
            fails("x+10000", 2);
            fails("10000x", 0);
            fails("00010000", 0);
            fails("x^2-  10000x", 6);
            // Numbers that come back to small ones modulo 2 to the 32, or to the 64.
            fails("4294967297", 0);
            fails("4294967296x", 0);
            fails("18446744073709551617", 0);
            fails("2147483648", 0);
            fails("1" + "0".repeat(300), 0);
            fails("10000x^13", 0);
            fails("10000y", 0);
        }

        private static void powers() {
            says("I: behind ^ 0 .. 12");
            reads("x^0", "1");
            reads("5x^0", "5");
            reads("x^1", "1 0");
            reads("x^12", "1 0 0 0 0 0 0 0 0 0 0 0 0");
            reads("x^0000000012", "1 0 0 0 0 0 0 0 0 0 0 0 0");
            reads("x^00000000000000000000", "1");
            fails("x^13", 2);
            fails("x^ 13", 3);
            fails("2x^0013+y", 3);
            fails("0x^13", 3);
            fails("x^100", 2);
            fails("x^9999", 2);
            fails("x^10000", 2);
            fails("x^4294967297", 2);
            fails("x^18446744073709551617", 2);
            fails("x^-1", 2);
            fails("x^+1", 2);
            fails("x^x", 2);
            fails("x^^2", 2);
            fails("x^2^2", 3);
            fails("2^3", 1);
            fails("^2", 0);
        }

        private static void blanks() {
            says("I: blanks (32) between them count for nothing");
            reads("- 3 x ^ 2 + 4 x - 5", "-3 4 -5");
            reads("-     3x     ^2", "-3 0 0");
            reads(" x", "1 0");
            reads("x ", "1 0");
            reads("   +   7   ", "7");
            fails("1 2", 2);
            fails("12 34x", 3);
            fails("x^1 2", 4);
            fails("x 2", 2);
            fails("x x", 2);
            fails("x\t+1", 1);
            fails("x\n", 1);
            fails("x\u00a0", 1);
            fails("\u001fx", 0);
            fails("!x", 0);
        }

        private static void likePowers() {
            says("I: TERMS of like powers are added");
            reads("x+x+x", "3 0");
            reads("x-x+1", "1");
            reads("x^12-x^12+2x^3", "2 0 0 0");
            reads("1+x^0+x^0", "3");
            reads("x^1+x", "2 0");
            reads("9999+9999-9999", "9999");
            reads("-9999x-9999x+9999x", "-9999 0");
            reads("9999+9999+9999-9999-9999-9998", "1");
            reads("0x^12+5", "5");
            reads("-0x+1", "1");
        }

        private static void wrongBytes() {
            says("I: FAULT: the place of the first byte that can't stand there");
            fails("X", 0);
            fails("y", 0);
            fails("*", 0);
            fails("x*2", 1);
            fails("2*x", 1);
            fails("x=1", 1);
            fails("x+1 .", 4);
            fails("x/2", 1);
            fails("x:2", 1);
            fails("x+/", 2);
            fails("x+:", 2);
            fails("(x)", 0);
            fails("\u0000", 0);
            fails("x\u0000", 1);
            fails("\u00ffx", 0);
            fails("\u00b2", 0);
            fails("\u00f8", 0);
            fails("x+y+z", 2);
            fails("y" + "x".repeat(399), 0);
            fails("x".repeat(400), 1);
        }

        private static void endsTooSoon() {
            says("I: FAULT: the TAPE's length, if it ends too soon");
            fails("", 0);
            fails(" ", 1);
            fails(" ".repeat(400), 400);
            fails("+", 1);
            fails("-", 1);
            fails("- ", 2);
            fails("x+", 2);
            fails("x-   ", 5);
            fails("x^", 2);
            fails("x ^ ", 4);
            fails("7+x^", 4);
            fails("x" + " ".repeat(398) + "-", 400);
        }

        private static void nothingOrTooGreat() {
            says("I: FAULT: -2 if the POLYNOMIAL is nothing, or can't be in STORE");
            fails("0", -2);
            fails("-0", -2);
            fails("00000", -2);
            fails("0x^12", -2);
            fails("x-x", -2);
            fails("x^12-x^12", -2);
            fails("9999-9999", -2);
            fails("9999+1", -2);
            fails("-9999-1", -2);
            fails("x^5+9999x+x", -2);
            fails("9999x^12+x^12", -2);
            fails("x-9999x^0-1", -2);
            // Where a byte is wrong, that place is told and not -2.
            fails("x-x+", 4);
            fails("9999+1y", 6);
        }

        private static void readKeepsOrEmptiesTheTape() {
            says("5: (empty then); -2 (the TAPE stays)");
            Box box = new Box();
            write(box, "x^2+1");
            for (int no : NO_PLACES) {
                due("read(" + no + ")", box.read(no), -2);
                due("the TAPE stays", tape(box), "x^2+1");
                due("FAULT stays", box.fault(), -1);
            }
            due("read(7)", box.read(7), 2);
            due("empty then", box.count(13), 0);
            due("tape(0)", box.tape(0), -1);
            due("read(7) of an empty TAPE", box.read(7), -6);
            due("FAULT", box.fault(), 0);
            due("feed behind an empty TAPE", box.feed(0x78202020, 0x20202020, 0x20202020, 0x20202020, 0x20202020), 20);
            due("read(7)", box.read(7), 1);
        }

        private static void faultOfTheLatest() {
            says("6: of the latest read() that was not REFUSED by -2; NONE without one, ahead of any");
            Box box = new Box();
            due("ahead of any", box.fault(), -1);
            put(box, 8, "y");
            due("-2 ahead of any", box.fault(), -1);
            put(box, 0, "x^13");
            due("of one", box.fault(), 2);
            put(box, -1, "x");
            due("-2 leaves it", box.fault(), 2);
            put(box, 0, "x-x");
            due("of the next", box.fault(), -2);
            box.times(0, 0, 0);
            box.undo();
            box.image(0);
            box.back(0);
            box.listing(0);
            box.end(0);
            due("others leave it", box.fault(), -2);
            put(box, 0, "x");
            due("without one", box.fault(), -1);
            box.undo();
            due("undo() leaves it", box.fault(), -1);
        }

        private static void fourHundredBytesRead() {
            says("I: TEXT on the TAPE (400 bytes at most)");
            reads("x" + "+1".repeat(199) + " ", "1 199");
            reads("49x" + "+49x".repeat(99) + " ", "4900 0");
            reads("0".repeat(396) + "9999", "9999");
            reads("x^" + "0".repeat(396) + "12", "1 0 0 0 0 0 0 0 0 0 0 0 0");
            fails("0".repeat(395) + "10000", 0);
            fails("x+" + "1+".repeat(198) + "1y", 399);
            fails("x+" + "1+".repeat(199), 400);
            // 80 times 9,999 is far beyond 9,999 and far within what can be reckoned.
            fails("9999" + "+9999".repeat(79) + " ", -2);
        }

        private static void lists(String text) {
            Box box = with(text);
            box.feed(1, 2, 3, 4, 5);
            due("listing of '" + text + "'", box.listing(0), text.length());
            due("the TAPE", tape(box), text);
            due("status()", box.status(), 0);
            due("count(12)", box.count(12), 1);
        }

        private static void listingForms() {
            says("7: TERMS by falling powers, a SIGN between (ahead only -), 1 ahead of x left out");
            String[] texts = {"1", "-1", "x", "-x", "10", "-10", "100", "1000", "9999", "-9999", "x+1", "x-1", "-x+1",
                "-x-1", "2x", "-2x", "10x", "11x^11", "x^2", "-x^2", "x^10", "x^12-x^11+x^10-x^9", "1001x^12+101x-11",
                "x^12+1", "9x^9-90x^8+909x^7-9000x^6+9009x^5-9099x^4"};
            for (String text : texts) {
                lists(text);
            }
        }

        private static void longestListing() {
            says("7: onto the TAPE, in place of all");
            lists(nines("-"));
            due("its bytes", nines("-").length(), 102);
            Box box = with(nines("-"), "7");
            for (int i = 0; i < 20; i++) {
                box.feed(-1, -1, -1, -1, -1);
            }
            due("in place of 400", box.listing(0), 102);
            due("tape(101)", box.tape(101), '9');
            due("tape(102)", box.tape(102), -1);
            due("shorter", box.listing(1), 1);
            due("tape(1)", box.tape(1), -1);
            due("end(2)", box.end(2), -1);
            due("read again", box.read(0), 0);
        }
    }

    /** SQUARED, LEVELS, BEYOND, LOW, HIGH, BEST: terms II and promises 21 to 24, 28 to 30. */
    private static final class Levels {
        static void all() {
            squaredSigns();
            levelArguments();
            beyondByProduct();
            beyondByDegreeOne();
            beyondBySumOnTheWay();
            beyondByManyProducts();
            notBeyondThoughTwice();
            wholeSumAtItsEdge();
            lowAtItsEdge();
            lowOfNearlyLike();
            highAtItsEdge();
            highOfPowersOfTwo();
            greatest();
            lowHighArguments();
            enclosedFirst();
            compared();
            comparedBeyond();
            surely();
            surelyBeyond();
            least();
        }

        private static String level(Box box, int i, int k) {
            StringBuilder text = new StringBuilder();
            for (int p = box.of(i, 0); p >= 0; p--) {
                text.append(box.level(i, k, p)).append(p == 0 ? "" : " ");
            }
            return text.toString();
        }

        private static void squaredSigns() {
            says("II: SQUARED, and times -1, if n is odd");
            Box box = with("-7", "x-3", "-2x+1", "x^2-3x+1", "x^3+2", "-x^12-1", "x^11-1", "x");
            String[] want = {"49", "1 -9", "4 -1", "1 -7 1", "1 0 0 -4", "1 0 0 0 0 0 2 0 0 0 0 0 1",
                "1 0 0 0 0 0 0 0 0 0 0 -1", "1 0"};
            for (int i = 0; i < 8; i++) {
                due("level 1 of " + i, level(box, i, 1), want[i]);
                due("LEVEL 0 is P", level(box, i, 0), poly(box, i));
            }
            for (int i = 0; i < 8; i++) {
                box.turn(5, i, i);
                due("turn(5) of " + i, poly(box, i), want[i]);
            }
        }

        private static void levelArguments() {
            says("21: a power 0 .. 12 of LEVEL k (0 behind DEGREE), LEVELS 0 .. 6");
            Box box = with("x^2-x-1");
            for (int k = 0; k <= 6; k++) {
                due("power 2, LEVEL " + k, box.level(0, k, 2), 1);
                due("power 3, LEVEL " + k, box.level(0, k, 3), 0);
                due("power 12, LEVEL " + k, box.level(0, k, 12), 0);
                due("power 13, LEVEL " + k, box.level(0, k, 13), NO_LONG);
                due("power -1, LEVEL " + k, box.level(0, k, -1), NO_LONG);
                due("power MIN, LEVEL " + k, box.level(0, k, MIN), NO_LONG);
            }
            int[] none = {-1, 7, 8, MIN, MAX};
            for (int k : none) {
                due("LEVEL " + k, box.level(0, k, 0), NO_LONG);
            }
            due("LEVEL 6", box.level(0, 6, 1), -23725150497407L);
        }

        private static void number(int number, int best, long last) {
            Box box = with(String.valueOf(number), "-" + number);
            due("BEST of " + number, box.of(0, 9), best);
            due("BEST of -" + number, box.of(1, 9), best);
            due("its COEFFICIENT at BEST", box.level(0, best, 0), last);
            due("the same of -" + number, box.level(1, best, 0), best == 0 ? -last : last);
            for (int k = best + 1; k <= 6; k++) {
                due("LEVEL " + k + " of " + number + " is BEYOND", box.level(0, k, 0), NO_LONG);
                due("behind DEGREE, too", box.level(0, k, 1), NO_LONG);
                due("LOW", box.low(0, k), -1);
                due("HIGH", box.high(0, k), -1);
            }
            for (int k = 0; k <= best; k++) {
                due("LOW by LEVEL " + k, box.low(0, k), 1000 * number);
                due("HIGH by LEVEL " + k, box.high(0, k), 1000 * number);
            }
        }

        private static void beyondByProduct() {
            says("II: BEYOND, if a product is beyond a long; so are all behind it");
            number(1, 6, 1L);
            number(2, 5, 4294967296L);
            number(3, 5, 1853020188851841L);
            // 2 to the 64 comes back to 0 in a long.
            number(4, 4, 4294967296L);
            number(15, 4, 6568408355712890625L);
            number(16, 3, 4294967296L);
            number(234, 3, 8989320386052055296L);
            number(235, 2, 3049800625L);
            number(256, 2, 4294967296L);
            number(9999, 2, 9996000599960001L);
        }

        private static void beyondByDegreeOne() {
            says("II: BEYOND by a COEFFICIENT j, any of them");
            Box box = with("x-15", "x-16", "15x+1", "16x+1", "x^12+234", "x^12+235", "234x^12-1", "235x^12-1");
            int[] best = {4, 3, 4, 3, 3, 2, 3, 2};
            int[] high = {15001, 16001, 15001, 16001, 234001, 235009, 234001, 235009};
            for (int i = 0; i < 8; i++) {
                due("BEST of " + poly(box, i), box.of(i, 9), best[i]);
                due("HIGH there", box.high(i, best[i]), high[i]);
                due("HIGH behind", box.high(i, best[i] + 1), -1);
                due("HIGH at 6", box.high(i, 6), -1);
            }
            due("-15 to the 16", box.level(0, 4, 0), -6568408355712890625L);
            due("the last, BEYOND by another", box.level(0, 5, 1), NO_LONG);
        }

        private static void beyondBySumOnTheWay() {
            says("II: BEYOND, if a sum is, one by one, beginning with 0");
            // No product is beyond a long, nor is any whole sum: only one on the way.
            Box box = with("12x^6-8x^3-5x^2-9", "2x^9+2x^8-2x^7-x^5+x^4+2x^2+2x-1",
                "-3x^10+2x^9+x^8-3x^4+x^3+2", "-x^11+x^9-x^7-2x^6+1",
                "71x^12-31x^11-98x^10+94x^9+18x^8+16x^7-99x^6+87x^5+41x^4+72x^3+85x^2-28x-20");
            int[] best = {3, 4, 4, 5, 2};
            for (int i = 0; i < 5; i++) {
                due("BEST of " + poly(box, i), box.of(i, 9), best[i]);
                due("LEVEL behind", box.level(i, best[i] + 1, 0), NO_LONG);
                due("LOW behind", box.low(i, best[i] + 1), -1);
                due("HIGH behind", box.high(i, best[i] + 1), -1);
            }
        }

        private static void beyondByManyProducts() {
            says("II: BEYOND by a sum, though no COEFFICIENT of the LEVEL ahead has more than 30 bits");
            Box box = with("171x^12-x^11+13x^10-201x^9-41x^8-59x^7+248x^6-24x^5+11x^4-201x^3-14x^2+28x+171",
                "169x^12+66x^11+295x^10+507x^9+370x^8+662x^7+619x^6+603x^5+425x^4+443x^3+307x^2+50x+169",
                "170x^12-194x^11+366x^10-642x^9+679x^8-883x^7+896x^6-839x^5+697x^4-592x^3+358x^2-174x+170");
            long[] most = {884183905L, 1054132281L, -870650257L};
            int[] power = {8, 4, 7};
            int[] high = {236279, 236203, 234975};
            for (int i = 0; i < 3; i++) {
                due("BEST of " + poly(box, i), box.of(i, 9), 2);
                due("greatest of LEVEL 2", box.level(i, 2, power[i]), most[i]);
                due("HIGH by LEVEL 2", box.high(i, 2), high[i]);
                due("LEVEL 3", box.level(i, 3, 6), NO_LONG);
                due("HIGH by LEVEL 3", box.high(i, 3), -1);
            }
        }

        private static void notBeyondThoughTwice() {
            says("II: not BEYOND, where only twice a product is beyond a long");
            Box box = with("-3x^9-3x", "-x^10+x^8-2x^7+1");
            due("BEST", box.of(0, 9), 5);
            due("LEVEL 5", box.level(0, 5, 5), 129711413219628870L);
            due("HIGH by LEVEL 5", box.high(0, 5), 3479);
            due("BEST", box.of(1, 9), 6);
            due("LEVEL 6", box.level(1, 6, 6), -8289953017218037276L);
        }

        private static void wholeSumAtItsEdge() {
            says("II: COEFFICIENTS close to what a long can tell");
            Box box = with("-6x^12-6x^11+2x^10+x^9+9x^8-8x^6+5x^5-8x^4+3x^3-9x^2-7x-3", "-x^4+x^3-3x^2-2x-3",
                "x^9-x^8-x^6-x^3-x-1");
            long most = 0;
            for (int p = 0; p <= 12; p++) {
                most = Math.max(most, Math.abs(box.level(0, 4, p)));
            }
            due("greatest of LEVEL 4", most, 9220636301611908364L);
            most = 0;
            for (int p = 0; p <= 9; p++) {
                most = Math.max(most, Math.abs(box.level(2, 6, p)));
            }
            due("greatest of LEVEL 6", most, 8233492879497179914L);
        }

        private static void lowAtItsEdge() {
            says("II: LOW: the greatest thousandth of which that power is not above one of the former");
            Box box = with("x^2-7x+1", "x^3-7x^2+1", "x^12+9999x", "x^12+9998x", "x^12+9999x^6", "x^3-8x^2+1",
                "x^2-2x+1", "x^4+4000x^2");
            int[] low = {3500, 2333, 833250, 833166, 10821, 2666, 1000, 666666};
            for (int i = 0; i < 8; i++) {
                due("low of " + poly(box, i), box.low(i, 0), low[i]);
            }
            due("by LEVEL 1", box.low(2, 1), 2886462);
            due("by LEVEL 2", box.low(2, 2), 5372312);
            due("by LEVEL 3, BEYOND", box.low(2, 3), -1);
            due("by LEVEL 2", box.low(4, 2), 1813587);
        }

        private static void lowOfNearlyLike() {
            says("II: LOW: each a(i) without sign by the number of ways, where they differ by less than 1");
            Box box = with("2x^3-8x^2", "2x^3+7x^2-8x", "2x^3+8x^2-7x", "2x^4+11x^3-17x^2+9x-2",
                "2x^4+9x^3-17x^2+11x-2", "2x^4+17x^2+11x", "2x^12+32x^11+150x^10", "2x^12+35x^11+150x^10");
            int[] low = {2666, 2666, 2666, 2833, 2833, 2833, 2666, 2916};
            int[] byOne = {4618, 5196, 5537, 6873, 6103, 6940, 18463, 18463};
            for (int i = 0; i < 8; i++) {
                due("low of " + poly(box, i), box.low(i, 0), low[i]);
                due("by LEVEL 1", box.low(i, 1), byOne[i]);
            }
            put(box, 0, "3x^2+6x+3");
            due("all like", box.low(0, 0), 3000);
            put(box, 0, "3x^2+7x+3");
            due("the middle is greater", box.low(0, 0), 3500);
            put(box, 0, "x^12-9999x^11+9996x");
            due("behind is greater", box.low(0, 0), 833250);
            put(box, 0, "x^12-9996x^11+9999x");
            due("ahead is greater", box.low(0, 0), 833250);
        }

        private static void highAtItsEdge() {
            says("II: HIGH: the least thousandth of which the square of that power is not below the latter");
            Box box = with("3x-4", "1000x+1", "999x^4+43x^3+12x^2+2x+1", "x+1", "x^3+x^2+x+1", "5x+12", "x",
                "9999x^12+9999x^11");
            int[] high = {5000, 1000001, 1000000, 1415, 2000, 13000, 1000, 14140722};
            for (int i = 0; i < 8; i++) {
                due("high of " + poly(box, i), box.high(i, 0), high[i]);
            }
            due("by LEVEL 1", box.high(2, 1), 999124);
            due("by LEVEL 2", box.high(1, 2), 1000001);
            due("by LEVEL 2", box.high(2, 2), 999002);
            due("by LEVEL 3, BEYOND", box.high(1, 3), -1);
            int[] ofOne = {1415, 1190, 1091, 1045, 1022, 1011, 1006};
            for (int k = 0; k <= 6; k++) {
                due("of x+1 by LEVEL " + k, box.high(3, k), ofOne[k]);
                due("of x by LEVEL " + k, box.high(6, k), 1000);
            }
        }

        private static void highOfPowersOfTwo() {
            says("II: HIGH, where all squared together are a multiple of a high power of two");
            Box box = with("2048", "8192", "2048x+2048", "2048x^4+2048x^2+2048x+2048", "4096-4096x",
                "8192x^3+8192x^2+8192x+8192", "1024x^3+1024x^2+1024x+1024", "4096x^4+2048x^3+2048x^2+2048x+2048");
            int[][] high = {{2048000, 2048000, 2048000}, {8192000, 8192000, 8192000}, {2896310, 2435497, 2233360},
                {4096000, 4096000, 3541737}, {5792619, 4870993, 4466720}, {16384000, 11585238, 11912933},
                {2048000, 1448155, 1489117}, {5792619, 5016555, 4582210}};
            for (int i = 0; i < 8; i++) {
                due("BEST of " + poly(box, i), box.of(i, 9), 2);
                for (int k = 0; k <= 2; k++) {
                    due("high of " + poly(box, i) + " by LEVEL " + k, box.high(i, k), high[i][k]);
                }
            }
        }

        private static void greatest() {
            says("II: LOW and HIGH of the greatest that can be in STORE");
            Box box = with(nines("+"), nines("-"),
                "9999x^12-9999x^11+9999x^10+9999x^9+9999x^8-9999x^7+9999x^6+9999x^5+9999x^4-9999x^3+9999x^2+9999x+9999",
                "9999x^12-9999x^11-9999x^10+9999x^9+9999x^8-9999x^7-9999x^6+9999x^5+9999x^4-9999x^3-9999x^2+9999x+9999");
            int[] high = {36051908, 18986391, 13778423};
            for (int k = 0; k <= 2; k++) {
                due("HIGH", box.high(0, k), high[k]);
                due("HIGH, times -1", box.high(1, k), high[k]);
                due("LOW", box.low(0, k), 9999000);
            }
            due("BEST", box.of(0, 9), 2);
            due("LEVEL 1", box.level(2, 1, 6), 1299740013L);
            due("HIGH by LEVEL 1", box.high(2, 1), 44406237);
            due("HIGH by LEVEL 2, of all signs the greatest", box.high(2, 2), 51417606);
            due("HIGH by LEVEL 1, of all signs the greatest", box.high(3, 1), 52168833);
            due("HIGH by LEVEL 3, BEYOND", box.high(3, 3), -1);
        }

        private static void lowHighArguments() {
            says("22, 23: NONE for others");
            Box box = with("x^2-x-1");
            int[] none = {-1, 7, 8, MIN, MAX};
            for (int k : none) {
                due("low(0, " + k + ")", box.low(0, k), -1);
                due("high(0, " + k + ")", box.high(0, k), -1);
            }
            due("low(0, 0)", box.low(0, 0), 1000);
            due("low(0, 6)", box.low(0, 6), 1600);
            due("high(0, 0)", box.high(0, 0), 1733);
            due("high(0, 6)", box.high(0, 6), 1619);
        }

        private static void enclosedFirst() {
            says("24: of all LEVELS that are not BEYOND, the LEVEL of that, the first");
            Box box = with("x^2-x-1", "x^12+9999x", "2x-1", "-3x^9-3x", "x", "9999", "x^3-x-1", "x^2+2");
            int[][] want = {{1600, 1619, 6, 3}, {5372312, 9999001, 2, 0}, {2000, 2001, 0, 2}, {3000, 3479, 0, 5},
                {1000, 1000, 0, 0}, {9999000, 9999000, 0, 0}, {1302, 1325, 6, 4}, {2000, 2001, 0, 4}};
            for (int i = 0; i < 8; i++) {
                for (int what = 0; what <= 3; what++) {
                    due("enclosed(" + i + ", " + what + ")", box.enclosed(i, what), want[i][what]);
                }
                due("what 4", box.enclosed(i, 4), -1);
                due("what -1", box.enclosed(i, -1), -1);
                due("what MIN", box.enclosed(i, MIN), -1);
                due("what MAX", box.enclosed(i, MAX), -1);
            }
        }

        private static void compared() {
            says("III: COMPARED: 1, if LOW of one is above HIGH of the other, -1 the other way round, else 0");
            // LOW and HIGH of numbers are the same: at 5,000 they touch HIGH of 3x-4.
            Box box = with("3x-4", "5", "-5", "6", "4", "2x", "2");
            due("LOW is HIGH", box.compare(1, 0, 0), 0);
            due("the other way round", box.compare(0, 1, 0), 0);
            due("both the same", box.compare(1, 2, 0), 0);
            due("one and itself", box.compare(3, 3, 6), 0);
            due("above", box.compare(3, 0, 0), 1);
            due("below", box.compare(0, 3, 0), -1);
            due("LOW is HIGH of the other", box.compare(0, 4, 0), 0);
            due("the other way round", box.compare(4, 0, 0), 0);
            due("by LEVEL 1 above HIGH 4,285", box.compare(1, 0, 1), 1);
            due("2x, 2", box.compare(5, 6, 6), 0);
            int[] none = {-1, 7, MIN, MAX};
            for (int k : none) {
                due("LEVEL " + k, box.compare(0, 1, k), -2);
            }
            due("-2 is not REFUSED", box.count(15) + box.status(), 0);
        }

        private static void comparedBeyond() {
            says("III: COMPARED (of each the greatest not BEYOND up to that)");
            // BEST 5, 2, 6; x^3-x-1 is told by LEVEL 6.
            Box box = with("x^2-3x+1", "9999", "x^3-x-1", "3x-4");
            due("9,999 with 2.618 by LEVEL 6", box.compare(1, 0, 6), 1);
            due("2.618 with 9,999 by LEVEL 6", box.compare(0, 1, 6), -1);
            due("1.324 with 2.618 by LEVEL 6", box.compare(2, 0, 6), -1);
            due("by LEVEL 2", box.compare(2, 0, 2), -1);
            due("by LEVEL 1", box.compare(2, 0, 1), -1);
            due("by LEVEL 0", box.compare(2, 0, 0), 0);
            due("4 by LEVEL 4, for 6", box.compare(3, 0, 6), 1);
        }

        private static void surely() {
            says("29: SURELY: 1, if HIGH is v at most, 0, if LOW is above v, else -1; v 0 .. 99,999,999");
            Box box = with("x^2-x-1", "9999", "x^2-7x+1", nines("+"));
            due("v is HIGH", box.surely(0, 0, 1733), 1);
            due("v below HIGH", box.surely(0, 0, 1732), -1);
            due("v is LOW", box.surely(0, 0, 1000), -1);
            due("v below LOW", box.surely(0, 0, 999), 0);
            due("v is both", box.surely(1, 2, 9999000), 1);
            due("v below both", box.surely(1, 2, 9998999), 0);
            due("v is LOW", box.surely(2, 0, 3500), -1);
            due("v below LOW", box.surely(2, 0, 3499), 0);
            due("v 0", box.surely(0, 6, 0), 0);
            due("v -1", box.surely(0, 6, -1), -2);
            due("v MIN", box.surely(0, 6, MIN), -2);
            due("v 99,999,999", box.surely(3, 0, 99999999), 1);
            due("v 100,000,000", box.surely(3, 0, 100000000), -2);
            due("v MAX", box.surely(3, 0, MAX), -2);
            int[] none = {-1, 7, MIN, MAX};
            for (int k : none) {
                due("LEVEL " + k, box.surely(0, k, 2000), -2);
            }
            due("v is HIGH", box.surely(3, 0, 36051908), 1);
            due("v below HIGH", box.surely(3, 0, 36051907), -1);
            due("-2 is not REFUSED", box.count(15) + box.status(), 0);
        }

        private static void surelyBeyond() {
            says("29: a LEVEL that is BEYOND goes by the greatest up to it that isn't");
            Box box = with("2", "9999", "x^2-3x+1");
            due("2 by LEVEL 5", box.surely(0, 5, 2000), 1);
            due("2 by LEVEL 6", box.surely(0, 6, 2000), 1);
            due("2 by LEVEL 6", box.surely(0, 6, 1999), 0);
            due("9,999 by LEVEL 3", box.surely(1, 3, 9999000), 1);
            due("v is HIGH by LEVEL 5", box.surely(2, 6, 2619), 1);
            due("v below that", box.surely(2, 6, 2618), -1);
            due("v is LOW by LEVEL 5", box.surely(2, 6, 2561), -1);
            due("v below that", box.surely(2, 6, 2560), 0);
        }

        private static void least() {
            says("30: its HIGH below their LOW; NONE (none; others)");
            Box box = with("2", "-2", "3", "x", "-x^12", "x^2-x-1", "x^3-x-1", "2x-1");
            due("2 and -2 are the same", box.least(0b11), -1);
            due("2 and 3", box.least(0b101), 0);
            due("2, -2, 3", box.least(0b111), -1);
            due("1 and 1", box.least(0b11000), -1);
            due("HIGH 1,000, LOW 2,000", box.least(0b1001), 3);
            due("1.618 and 2", box.least(0b100001), 5);
            due("1.324, 1.618, 2, 3", box.least(0b1100101), 6);
            due("HIGH 2,001 and LOW 2,000", box.least(0b10000001), -1);
            due("2,001 and 3,000", box.least(0b10000100), 7);
            box.turn(3, 7, 0);
            box.turn(3, 1, 7);
            due("the other way round: LOW 2,000 at place 0", box.least(0b10000001), -1);
            due("the same at place 1", box.least(0b10), 1);
            for (int i = 0; i < 8; i++) {
                due("one alone", box.least(1 << i), i);
            }
            due("all", box.least(255), -1);
            int[] none = {0, 256, 257, 512, 1 << 30, -1, -256, MIN, MIN + 1, MAX};
            for (int set : none) {
                due("least(" + set + ")", box.least(set), -1);
            }
        }
    }

    /** CYCLOTOMIC, OFTEN, CORE, ONE: terms II and promises 12, 13, 25. */
    private static final class Circles {
        private static final int[] DEGREES = {0, 1, 1, 2, 2, 4, 2, 6, 4, 6, 4, 10, 4, 12, 6, 8, 8, 16, 6, 18, 8, 12,
            10, 22, 8, 20, 12, 18, 12, 28, 8, 30, 16, 20, 16, 24, 12, 36, 18, 24, 16, 40, 12};

        static void all() {
            cyclotomicNumbers();
            cyclotomicRoots();
            oftenNumbers();
            oftenMost();
            coreOfAll();
            coreSigns();
            coreTooGreat();
            measureOne();
        }

        private static void cyclotomicNumbers() {
            says("12: -1 (n 1 .. 42; of DEGREE above 12)");
            Box box = new Box();
            for (int n = 1; n <= 42; n++) {
                due("cyclotomic(" + n + ", 3)", box.cyclotomic(n, 3), DEGREES[n] > 12 ? -1 : DEGREES[n]);
                due("status()", box.status(), DEGREES[n] > 12 ? -1 : 0);
            }
            int[] none = {0, -1, 43, 44, 45, 84, MIN, MAX};
            for (int n : none) {
                due("cyclotomic(" + n + ", 3)", box.cyclotomic(n, 3), -1);
            }
            due("the last one stays", poly(box, 3), "1 1 0 -1 -1 0 1 0 -1 -1 0 1 1");
            due("others stay", poly(box, 2) + poly(box, 4), "11");
        }

        private static void cyclotomicRoots() {
            says("II: CYCLOTOMIC n: those of x to the n less 1 together; the last COEFFICIENT 1");
            for (int n = 1; n <= 12; n++) {
                Box box = new Box();
                for (int d = 1; d <= n; d++) {
                    if (n % d == 0) {
                        box.cyclotomic(d, 1);
                        due("the last COEFFICIENT of " + d, box.coefficient(1, box.of(1, 0)), 1);
                        box.times(0, 1, 0);
                    }
                }
                StringBuilder want = new StringBuilder("1");
                for (int p = 1; p < n; p++) {
                    want.append(" 0");
                }
                due("together for " + n, poly(box, 0), want + " -1");
            }
            Box box = new Box();
            int[] numbers = {15, 18, 21, 30, 36, 42};
            String[] want = {"1 -1 0 1 -1 1 0 -1 1", "1 0 0 -1 0 0 1", "1 -1 0 1 -1 0 1 0 -1 1 0 -1 1",
                "1 1 0 -1 -1 -1 0 1 1", "1 0 0 0 0 0 -1 0 0 0 0 0 1", "1 1 0 -1 -1 0 1 0 -1 -1 0 1 1"};
            for (int i = 0; i < want.length; i++) {
                box.cyclotomic(numbers[i], 0);
                due("CYCLOTOMIC " + numbers[i], poly(box, 0), want[i]);
            }
        }

        private static void oftenNumbers() {
            says("25: NONE (n 0 .. 42, of DEGREE above 12; others)");
            Box box = new Box();
            for (int n = 0; n <= 42; n++) {
                due("often(0, " + n + ") of 1", box.often(0, n), DEGREES[n] > 12 ? -1 : 0);
                Box other = new Box();
                if (n > 0 && DEGREES[n] <= 12) {
                    other.cyclotomic(n, 1);
                    for (int m = 0; m <= 42; m++) {
                        due("often " + m + " in " + n, other.often(1, m), DEGREES[m] > 12 ? -1 : m == n ? 1 : 0);
                    }
                }
            }
            int[] none = {-1, 43, 44, MIN, MAX};
            for (int n : none) {
                due("often(0, " + n + ")", box.often(0, n), -1);
            }
            due("NONE is not REFUSED", box.count(14) + box.status(), 0);
        }

        private static void oftenMost() {
            says("II: how OFTEN: how many times P can be divided by it without rest");
            Box box = with("x^12", "x^6-6x^5+15x^4-20x^3+15x^2-6x+1", "-3x^3", "x^11-x^10");
            due("x, 12 times", box.often(0, 0), 12);
            due("others in x^12", box.often(0, 1), 0);
            due("x-1, 6 times", box.often(1, 1), 6);
            box.times(1, 1, 1);
            due("x-1, 12 times", box.often(1, 1), 12);
            due("x+1, not at all", box.often(1, 2), 0);
            due("x, not at all", box.often(1, 0), 0);
            due("x in -3x^3", box.often(2, 0), 3);
            due("x, 10 times", box.often(3, 0), 10);
            due("x-1, once", box.often(3, 1), 1);
            box.cyclotomic(42, 4);
            due("42, once", box.often(4, 42), 1);
            put(box, 5, "4x-4");
            due("a root of 4 in what is asked", box.often(5, 1), 1);
            put(box, 5, "x^2-5x+4");
            due("value 0 at 4", box.often(5, 1), 1);
        }

        private static void coreOfAll() {
            says("13: CORE: x and CYCLOTOMIC ones divided out as often as they are in it");
            Box box = with("x^12", "-x^12", "x^6-6x^5+15x^4-20x^3+15x^2-6x+1", "x^12-1", "x^2-x-1");
            box.times(2, 2, 2);
            for (int i = 0; i <= 3; i++) {
                due("core(" + i + ", 7)", box.core(i, 7), 0);
                due("it is 1", poly(box, 7), "1");
            }
            for (int n = 1; n <= 42; n++) {
                if (DEGREES[n] <= 10) {
                    box.cyclotomic(n, 5);
                    box.times(5, 4, 6);
                    due("core with " + n, box.core(6, 7), 2);
                    due("what is left", poly(box, 7), "1 -1 -1");
                    due("into itself", box.core(6, 6), 2);
                }
            }
            put(box, 0, "x^2-5x+4");
            due("value 0 at 4", box.core(0, 7), 1);
            due("what is left", poly(box, 7), "1 -4");
        }

        private static void coreSigns() {
            says("13: and times -1, if its last COEFFICIENT is below 0");
            Box box = with("-1", "-x", "-2x+4", "2x-4", "-x^2+x+1", "-9999", "-x^3+x", "9999x^12");
            String[] want = {"1", "1", "2 -4", "2 -4", "1 -1 -1", "9999", "1", "9999"};
            for (int i = 0; i < 8; i++) {
                int degree = box.core(i, i);
                due("core of place " + i, poly(box, i), want[i]);
                due("its DEGREE", degree, box.of(i, 0));
            }
        }

        private static void coreTooGreat() {
            says("13: -5");
            // Divided by x^2+x+1 the COEFFICIENTS go up to 10,000, or to 9,999.
            Box box = with("5000x^4+5000x^3-x^2-9998x-1", "9999x^3-9998x^2+9998x-9999");
            String before = kept(box);
            due("10,000 is left", box.core(0, 7), -5);
            due("nothing changes", kept(box), before);
            due("by -5", box.count(17), 1);
            due("9,999 is left", box.core(1, 7), 2);
            due("what is left", poly(box, 7), "9999 1 9999");
        }

        private static void measureOne() {
            says("II: of measure ONE, if its CORE is 1");
            String[] ones = {"1", "-1", "x", "-x", "x^12", "-x^12", "x-1", "-x-1", "x^12-1", "-x^11-x^10", "x^12-x^6+1"};
            String[] others = {"2", "-2", "9999", "2x", "2x-2", "x-2", "x^2-x-1", "x^2-3x+1", "-3x^12", "x^3-x-1",
                "x^10+x^9-x^7-x^6-x^5-x^4-x^3+x+1", "x-4", "x^2-5x+4"};
            for (String one : ones) {
                due("of '" + one + "'", with(one).of(0, 5), 1);
            }
            for (String other : others) {
                due("of '" + other + "'", with(other).of(0, 5), 0);
            }
        }
    }

    /** times, by, plus, turn: promises 8 to 11. */
    private static final class Acts {
        static void all() {
            timesEdges();
            byWhole();
            byRest();
            byWrapAround();
            byTooGreat();
            plusEdges();
            turnHow();
            turnFromBehind();
            derivative();
            squaredInStore();
            intoItself();
        }

        private static void timesEdges() {
            says("8: -5 (in STORE, DEGREE above 12)");
            Box box = with("99x^6+99", "101x^6", "-101x^6", "100x", "-100x", "9999x^12", "-9999", "-1");
            due("9,999", box.times(0, 1, 7), 12);
            due("told", poly(box, 7), "9999 0 0 0 0 0 9999 0 0 0 0 0 0");
            due("-9,999", box.times(0, 2, 7), 12);
            due("told", poly(box, 7), "-9999 0 0 0 0 0 -9999 0 0 0 0 0 0");
            due("10,000", box.times(3, 3, 7), -5);
            due("-10,000", box.times(3, 4, 7), -5);
            due("9,999 times 9,999", box.times(6, 6, 7), -5);
            due("9,999 times -9,999, DEGREE 12", box.times(5, 6, 7), -5);
            put(box, 7, "-1");
            due("9,999 times -1", box.times(5, 7, 7), 12);
            due("told", box.coefficient(7, 12), -9999);
            put(box, 0, nines("+"));
            due("all of the greatest, DEGREE 24", box.times(0, 0, 7), -5);
            due("what was there stays", box.coefficient(7, 12), -9999);
        }

        private static void byWhole() {
            says("9: if it is a POLYNOMIAL (whole, without rest)");
            Box box = with("9999x^12", "-9999", "x^12", "x", "-1", "9999x^12-9999", "x^12-1", "3333");
            due("by -9,999", box.by(0, 1, 7), 12);
            due("told", box.coefficient(7, 12), -1);
            due("by x^12", box.by(0, 2, 7), 0);
            due("told", poly(box, 7), "9999");
            due("by -1", box.by(0, 4, 7), 12);
            due("told", box.coefficient(7, 12), -9999);
            due("of DEGREE 12 both", box.by(5, 6, 7), 0);
            due("told", poly(box, 7), "9999");
            due("by itself", box.by(5, 5, 5), 0);
            due("told", poly(box, 5), "1");
            put(box, 7, "3333");
            due("3", box.by(0, 7, 7), 12);
            due("told", box.coefficient(7, 12), 3);
        }

        private static void byRest() {
            says("9: -4 (it is none)");
            Box box = with("x", "x^2", "1", "2", "x^12-1", "x^12-2", "9999x^12+1", "9998");
            due("of lesser DEGREE", box.by(0, 1, 7), -4);
            due("a number by x", box.by(2, 0, 7), -4);
            due("1 by 2", box.by(2, 3, 7), -4);
            due("x by 2", box.by(0, 3, 7), -4);
            due("a rest of 1", box.by(4, 5, 7), -4);
            due("the last alone is left over", box.by(6, 1, 7), -4);
            due("the first divides, others don't", box.by(6, 7, 7), -4);
            put(box, 0, "2x^2+3x+2");
            due("not whole in the middle", box.by(0, 3, 7), -4);
            put(box, 0, "2x^2+2x+3");
            due("not whole at the end", box.by(0, 3, 7), -4);
            due("by -4", box.count(16), 9);
        }

        private static void byWrapAround() {
            says("9: what goes beyond a long on the way is no POLYNOMIAL");
            // (-8,192) to the 12 is 2 to the 156: a multiple of 2 to the 64.
            Box box = with("x^12", "x+8192", "x-8192", "x+4096", "x^12-9999", "x+9999", "x^2+4096", "x^3-8192");
            for (int j = 1; j <= 7; j++) {
                if (j != 4) {
                    due("x^12 by place " + j, box.by(0, j, 4), -4);
                }
            }
            put(box, 4, "9999x^12-9999");
            due("9,999 to the 13", box.by(4, 5, 4), -4);
            due("what is there stays", box.coefficient(4, 12), 9999);
        }

        private static void byTooGreat() {
            says("9: -5");
            Box box = with("9999x^3+x^2-9999x-1", "x-1", "9999x^3-9998x^2+9998x-9999", "-9999x^3-x^2+9999x+1");
            due("10,000", box.by(0, 1, 7), -5);
            due("-10,000", box.by(3, 1, 7), -5);
            due("9,999", box.by(2, 1, 7), 2);
            due("told", poly(box, 7), "9999 1 9999");
            due("by -5", box.count(17), 2);
            // (x-1) to the 12 times 10: divided it has great COEFFICIENTS of both signs.
            put(box, 4, "x^6-6x^5+15x^4-20x^3+15x^2-6x+1");
            box.times(4, 4, 4);
            put(box, 5, "10");
            box.times(4, 5, 4);
            due("9,240", box.coefficient(4, 6), 9240);
            due("by x-1", box.by(4, 1, 6), 11);
            due("told", poly(box, 6), "10 -110 550 -1650 3300 -4620 4620 -3300 1650 -550 110 -10");
        }

        private static void plusEdges() {
            says("10: -1; -2; -5 (nothing is left, too)");
            Box box = with("5000x^12", "4999x^12", "-5000x^12", "x^12-x", "x^12", "9999", "-9999", "x");
            due("9,999", box.plus(0, 0, 1, 7), 12);
            due("told", box.coefficient(7, 12), 9999);
            due("10,000", box.plus(0, 0, 0, 7), -5);
            due("10,000 by less", box.plus(1, 0, 2, 7), -5);
            due("-10,000 by less", box.plus(1, 2, 0, 7), -5);
            due("nothing, together", box.plus(0, 0, 2, 7), -5);
            due("nothing, less", box.plus(1, 4, 4, 7), -5);
            due("19,998", box.plus(1, 5, 6, 7), -5);
            due("-19,998", box.plus(1, 6, 5, 7), -5);
            due("nothing of numbers", box.plus(0, 5, 6, 7), -5);
            due("DEGREE falls from 12 to 1", box.plus(1, 3, 4, 7), 1);
            due("told", poly(box, 7), "-1 0");
            due("12 and 0", box.plus(0, 5, 4, 7), 12);
            due("0 and 12", box.plus(1, 5, 4, 7), 12);
            due("told", poly(box, 7), "-1 0 0 0 0 0 0 0 0 0 0 0 9999");
            int[] none = {-1, 2, 3, MIN, MAX};
            for (int how : none) {
                due("how " + how, box.plus(how, 0, 0, 7), -1);
            }
            due("by -1", box.count(14), 5);
            due("by -5", box.count(17), 8);
        }

        private static void turnHow() {
            says("11: -1; what each how makes of 1");
            Box box = new Box();
            int[] none = {-1, 6, 7, MIN, MAX};
            for (int how : none) {
                due("how " + how, box.turn(how, 0, 1), -1);
                due("how " + how + ", no place", box.turn(how, 8, 1), -1);
            }
            int[] degrees = {0, 0, 0, 0, -5, 0};
            int[] numbers = {1, 1, 1, -1, -1, 1};
            for (int how = 0; how <= 5; how++) {
                due("turn(" + how + ", 0, 1)", box.turn(how, 0, 1), degrees[how]);
                due("told", box.coefficient(1, 0), numbers[how]);
            }
        }

        private static void turnFromBehind() {
            says("11: COEFFICIENTS from behind (noughts at the end fall away)");
            Box box = with("x^12", "x^12+x^11", "x^12+2", "-9999x^12+x^5", "7", "x");
            String[] want = {"1", "1 1", "2 0 0 0 0 0 0 0 0 0 0 0 1", "1 0 0 0 0 0 0 -9999", "7", "1"};
            for (int i = 0; i < want.length; i++) {
                due("from behind, DEGREE", box.turn(0, i, 7), (want[i].split(" ").length) - 1);
                due("from behind", poly(box, 7), want[i]);
            }
            due("of -x, DEGREE 12", box.turn(1, 1, 7), 12);
            due("told", poly(box, 7), "1 -1 0 0 0 0 0 0 0 0 0 0 0");
            due("of -x, DEGREE 1", box.turn(1, 5, 7), 1);
            due("told", poly(box, 7), "-1 0");
        }

        private static void derivative() {
            says("11: its derivative; -5 (nothing is left, too)");
            Box box = with("833x^12", "834x^12", "-833x^12", "-834x^12", "9999x", "4999x^2", "5000x^2", "3333x^3");
            due("9,996", box.turn(4, 0, 0), 11);
            due("told", box.coefficient(0, 11), 9996);
            due("10,008", box.turn(4, 1, 1), -5);
            due("-9,996", box.turn(4, 2, 2), 11);
            due("-10,008", box.turn(4, 3, 3), -5);
            due("9,999", box.turn(4, 4, 4), 0);
            due("told", poly(box, 4), "9999");
            due("of that nothing is left", box.turn(4, 4, 4), -5);
            due("9,998", box.turn(4, 5, 5), 1);
            due("10,000", box.turn(4, 6, 6), -5);
            due("9,999", box.turn(4, 7, 7), 2);
            due("told", poly(box, 7), "9999 0 0");
            put(box, 0, "-9999x^12+9999");
            due("-119,988", box.turn(4, 0, 0), -5);
        }

        private static void squaredInStore() {
            says("11: SQUARED; -5");
            Box box = with("99", "100", "-99x^12", "99x^12+1", "x-100", "x^2+100x+1", "x^2+99x-99", nines("+"));
            due("9,801", box.turn(5, 0, 0), 0);
            due("10,000", box.turn(5, 1, 1), -5);
            due("9,801 of -99", box.turn(5, 2, 2), 12);
            due("told", box.coefficient(2, 12), 9801);
            due("of DEGREE 12", box.turn(5, 3, 3), 12);
            due("told", poly(box, 3), "9801 0 0 0 0 0 198 0 0 0 0 0 1");
            due("-10,000", box.turn(5, 4, 4), -5);
            due("2 less 10,000", box.turn(5, 5, 5), 2);
            due("told", poly(box, 5), "1 -9998 1");
            due("-198 less 9,801", box.turn(5, 6, 6), 2);
            due("told", poly(box, 6), "1 -9999 9801");
            due("all of the greatest", box.turn(5, 7, 7), -5);
        }

        private static void intoItself() {
            says("8 to 13: into a place that is used, too");
            Box box = with("x-1", "x+1");
            due("times(0, 0, 0)", box.times(0, 0, 0), 2);
            due("told", poly(box, 0), "1 -2 1");
            due("times(0, 1, 1)", box.times(0, 1, 1), 3);
            due("told", poly(box, 1), "1 -1 -1 1");
            due("by(1, 0, 0)", box.by(1, 0, 0), 1);
            due("told", poly(box, 0), "1 1");
            due("plus(0, 0, 0, 0)", box.plus(0, 0, 0, 0), 1);
            due("told", poly(box, 0), "2 2");
            due("plus(1, 0, 1, 0)", box.plus(1, 0, 1, 0), 3);
            due("told", poly(box, 0), "-1 1 3 1");
            due("turn(0, 0, 0)", box.turn(0, 0, 0), 3);
            due("told", poly(box, 0), "1 3 1 -1");
            due("core(1, 1)", box.core(1, 1), 0);
            due("told", poly(box, 1), "1");
        }
    }

    /** SEARCH: terms II and promises 14, 15, 31, 32. */
    private static final class Searches {
        static void all() {
            wrongNumbers();
            boxes();
            order();
            highAtItsEdge();
            highAlmostAtItsEdge();
            firstThirty();
            byLevels();
            nothingFound();
            inPlaceOfOthers();
            taking();
            foundWhat();
            smallestEdges();
        }

        private static void wrongNumbers() {
            says("14: -1 (DEGREE not 2, 4, .. 10, HEIGHT not 1 .. 3, LEVEL 0 .. 6, v 1,000 .. 9,999)");
            Box box = new Box();
            due("search(2, 3, 0, 9999)", box.search(2, 3, 0, 9999), 2);
            int refused = 0;
            int[] degrees = {MIN, -4, -2, -1, 0, 1, 3, 5, 7, 9, 11, 12, 13, 14, MAX};
            for (int degree : degrees) {
                due("DEGREE " + degree, box.search(degree, 1, 0, 2000), -1);
                refused++;
            }
            int[] heights = {MIN, -3, -1, 0, 4, 5, MAX};
            for (int height : heights) {
                due("HEIGHT " + height, box.search(2, height, 0, 2000), -1);
                refused++;
            }
            int[] levels = {MIN, -1, 7, 8, MAX};
            for (int level : levels) {
                due("LEVEL " + level, box.search(2, 1, level, 2000), -1);
                refused++;
            }
            int[] vs = {MIN, -1, 0, 999, 10000, 10001, MAX};
            for (int v : vs) {
                due("v " + v, box.search(2, 1, 0, v), -1);
                refused++;
            }
            due("by -1", box.count(14), refused);
            due("what was FOUND stays", box.count(8) + 10 * box.count(10), 72);
            due("it can be undone", box.count(12), 1);
            due("v 1,000", box.search(2, 3, 0, 1000), 0);
            due("v 9,999", box.search(2, 3, 6, 9999), 2);
        }

        private static void boxes() {
            says("II: the BOX, all of it: at most 3,125; 14: -4 (it has more)");
            int[][] want = {{2, 1, 3, 3}, {2, 2, 5, 5}, {2, 3, 7, 5}, {4, 1, 9, 7}, {4, 2, 25, 13}, {4, 3, 49, 15},
                {6, 1, 27, 15}, {6, 2, 125, 32}, {6, 3, 343, 39}, {8, 1, 81, 29}, {8, 2, 625, 73}, {8, 3, 2401, 87},
                {10, 1, 243, 50}, {10, 2, 3125, 143}};
            Box box = new Box();
            for (int[] row : want) {
                due("search(" + row[0] + ", " + row[1] + ", 0, 9999)", box.search(row[0], row[1], 0, 9999),
                        row[2] - row[3]);
                due("looked at", box.count(10), row[2]);
                due("of measure ONE", box.count(11), row[3]);
                due("kept", box.count(8), Math.min(30, row[2] - row[3]));
                due("in all", box.count(9), row[2] - row[3]);
            }
            due("16,807", box.search(10, 3, 0, 9999), -4);
            due("the latest stays", box.count(10), 3125);
            due("by -4", box.count(16), 1);
        }

        private static void order() {
            says("II: looked at by the COEFFICIENT of 1 rising first (those of 1 slowest)");
            Box box = new Box();
            box.search(4, 3, 0, 9999);
            int before = MIN;
            for (int i = 0; i < 30; i++) {
                int key = 10 * box.found(i, 1) + box.found(i, 2);
                due("rising at " + i, key > before ? 1 : 0, 1);
                before = key;
                due("the same from behind", box.found(i, 3), box.found(i, 1));
                due("1 at 0", box.found(i, 0), 1);
                due("1 at 4", box.found(i, 4), 1);
            }
            due("the first has -3 at 1", box.found(0, 1), -3);
            due("the first has -3 at 2", box.found(0, 2), -3);
            box.search(10, 2, 0, 9999);
            due("the slowest", box.found(29, 1), -2);
            due("the quickest", box.found(1, 5), box.found(0, 5) + 1);
        }

        private static void highAtItsEdge() {
            says("II: FOUND: HIGH by LEVEL k is v thousandths at most");
            int[][] edges = {{2, 3, 0, 3317, 2}, {2, 3, 2, 2619, 2}, {2, 3, 6, 2619, 2}, {4, 1, 0, 2237, 2},
                {4, 1, 6, 1733, 2}, {6, 1, 6, 1418, 2}, {8, 1, 6, 1309, 2}, {10, 1, 6, 1197, 2}, {10, 1, 2, 1496, 2}};
            Box box = new Box();
            for (int[] e : edges) {
                due("v is HIGH " + e[3], box.search(e[0], e[1], e[2], e[3]), e[4]);
                due("HIGH", box.found(0, 13), e[3]);
                due("v below it", box.search(e[0], e[1], e[2], e[3] - 1), 0);
                due("kept", box.count(8), 0);
            }
            due("sums of squares that are squares: 9", box.search(8, 1, 0, 3000), 52);
            due("v below it", box.search(8, 1, 0, 2999) < 52 ? 1 : 0, 1);
        }

        private static void highAlmostAtItsEdge() {
            says("II: FOUND: HIGH is v at most, where sums of squares meet v, or miss it by very little");
            int[][] edges = {{6, 2, 2, 2467, 20}, {8, 1, 6, 1770, 30}, {8, 3, 1, 6118, 1864}, {8, 3, 3, 3598, 1038},
                {6, 1, 1, 2499, 10}, {6, 2, 0, 4000, 75}, {8, 1, 1, 2499, 30}, {6, 3, 1, 4666, 191}};
            Box box = new Box();
            for (int[] e : edges) {
                due("v " + e[3], box.search(e[0], e[1], e[2], e[3]), e[4]);
                due("in all", box.count(9), e[4]);
            }
        }

        private static void firstThirty() {
            says("II: the first 30; how many in all");
            Box box = new Box();
            due("just 30", box.search(4, 3, 0, 4899), 30);
            due("kept", box.count(8), 30);
            due("in all", box.count(9), 30);
            due("the 30th", box.found(29, 15), 0);
            due("the 31st", box.found(30, 15), MIN);
            due("34", box.search(4, 3, 0, 5386), 34);
            due("kept", box.count(8), 30);
            due("in all", box.count(9), 34);
            due("the 31st", box.found(30, 15), MIN);
            due("take(29, 0)", box.take(29, 0), 4);
            due("take(30, 0)", box.take(30, 0), -2);
            due("fewer", box.search(4, 3, 0, 4898) < 30 ? 1 : 0, 1);
            due("kept are all", box.count(8), box.count(9));
        }

        private static void byLevels() {
            says("II: HIGH by LEVEL k (the greatest not BEYOND up to that)");
            Box box = new Box();
            due("search(2, 3, 6, 9999)", box.search(2, 3, 6, 9999), 2);
            due("LEVEL 6 is BEYOND", box.found(0, 15), 5);
            due("HIGH by 5", box.found(0, 13), 2619);
            due("LOW by 5", box.found(0, 14), 2561);
            due("search(2, 3, 5, 9999)", box.search(2, 3, 5, 9999), 2);
            due("LEVEL 5", box.found(1, 15), 5);
            due("search(4, 3, 6, 9999)", box.search(4, 3, 6, 9999), 34);
            boolean four = false;
            boolean six = false;
            for (int i = 0; i < 30; i++) {
                box.take(i, 0);
                int by = Math.min(6, box.of(0, 9));
                due("LEVEL of " + i, box.found(i, 15), by);
                due("HIGH of " + i, box.found(i, 13), box.high(0, by));
                due("LOW of " + i, box.found(i, 14), box.low(0, by));
                four |= by == 4;
                six |= by == 6;
            }
            due("LEVELS 4 and 6 are among them", four && six ? 1 : 0, 1);
        }

        private static void nothingFound() {
            says("14, 15, 31, 32: nothing FOUND");
            Box box = new Box();
            for (int round = 0; round < 2; round++) {
                due("kept", box.count(8) + box.count(9), 0);
                due("take(0, 0)", box.take(0, 0), -2);
                for (int what = 0; what <= 15; what++) {
                    due("found(0, " + what + ")", box.found(0, what), MIN);
                }
                for (int what = 0; what <= 2; what++) {
                    due("smallest(" + what + ")", box.smallest(what), -1);
                }
                due("search(10, 2, 0, 1000)", box.search(10, 2, 0, 1000), 0);
                due("status()", box.status(), 0);
            }
            due("looked at", box.count(10), 3125);
            due("of measure ONE", box.count(11), 143);
            due("it can be undone", box.undo(), 7);
        }

        private static void inPlaceOfOthers() {
            says("14: these are kept in place of others");
            Box box = new Box();
            box.search(10, 2, 0, 9999);
            due("30", box.count(8), 30);
            box.search(2, 3, 0, 9999);
            due("2", box.count(8), 2);
            due("the third", box.found(2, 0), MIN);
            due("behind its DEGREE", box.found(0, 3), MIN);
            due("take(1, 0)", box.take(1, 0), 2);
            due("told", poly(box, 0), "1 3 1");
            due("take(2, 0)", box.take(2, 0), -2);
            box.search(2, 1, 0, 1000);
            due("none", box.count(8), 0);
            due("take(0, 0)", box.take(0, 0), -2);
            due("STORE stays", poly(box, 0), "1 3 1");
        }

        private static void taking() {
            says("15: -2 (no such one, place)");
            Box box = new Box();
            box.search(2, 3, 0, 9999);
            due("take(0, 0)", box.take(0, 0), 2);
            due("take(1, 7)", box.take(1, 7), 2);
            int[] none = {-1, 2, 29, 30, MIN, MAX};
            for (int i : none) {
                due("take(" + i + ", 0)", box.take(i, 0), -2);
            }
            due("take(0, 8)", box.take(0, 8), -2);
            due("take(2, 8)", box.take(2, 8), -2);
            due("by -2", box.count(15), 8);
            due("told", poly(box, 0) + ", " + poly(box, 7), "1 -3 1, 1 3 1");
            box.search(10, 1, 6, 1210);
            due("of DEGREE 10", box.take(1, 3), 10);
            due("told", poly(box, 3), "1 1 0 -1 -1 -1 -1 -1 0 1 1");
            due("what was taken stays FOUND", box.count(8), 2);
            box.search(2, 3, 0, 9999);
            box.cyclotomic(42, 3);
            due("of DEGREE 2, behind one of DEGREE 12", box.take(0, 3), 2);
            due("told", poly(box, 3), "1 -3 1");
        }

        private static void foundWhat() {
            says("31: a power 0 .. its DEGREE, 13, 14, 15. Integer.MIN_VALUE for others");
            Box box = new Box();
            for (int degree = 2; degree <= 10; degree += 2) {
                box.search(degree, degree == 2 ? 3 : 1, 1, 9999);
                for (int what = 0; what <= 12; what++) {
                    boolean there = box.found(0, what) != MIN;
                    due("DEGREE " + degree + ", what " + what, there ? 1 : 0, what <= degree ? 1 : 0);
                }
                due("power 0", box.found(0, 0), 1);
                due("power " + degree, box.found(0, degree), 1);
                due("LEVEL", box.found(0, 15), 1);
                int[] none = {-1, 16, 17, MIN, MAX};
                for (int what : none) {
                    due("what " + what, box.found(0, what), MIN);
                }
                int[] noOnes = {-1, box.count(8), 30, MIN, MAX};
                for (int i : noOnes) {
                    due("found(" + i + ", 0)", box.found(i, 0), MIN);
                    due("found(" + i + ", 13)", box.found(i, 13), MIN);
                }
            }
        }

        private static void smallestEdges() {
            says("32: those with the least HIGH: how many, the first, that HIGH. NONE without any; others");
            Box box = new Box();
            box.search(2, 3, 0, 9999);
            due("all of them", box.smallest(0), 2);
            due("the first", box.smallest(1), 0);
            due("that HIGH", box.smallest(2), 3317);
            int[] none = {-1, 3, MIN, MAX};
            for (int what : none) {
                due("smallest(" + what + ")", box.smallest(what), -1);
            }
            box.search(4, 1, 0, 9999);
            due("2 of 2", box.smallest(0), 2);
            box.search(4, 2, 0, 9999);
            due("2 of 12", box.smallest(0), 2);
            due("search(4, 2, 0, 2829)", box.search(4, 2, 0, 2829), 4);
            due("2 of 4", box.smallest(0), 2);
            due("the first is the second of all", box.smallest(1), 1);
            due("that HIGH", box.smallest(2), 2237);
            due("search(6, 1, 0, 2450)", box.search(6, 1, 0, 2450), 6);
            due("4 of 6", box.smallest(0), 4);
            due("the first is the second of all", box.smallest(1), 1);
            box.undo();
            box.undo();
            due("2 of 12 again", box.smallest(0), 2);
            due("that HIGH", box.smallest(2), 2237);
            due("the first is not the first of all", box.found(box.smallest(1), 13), 2237);
            due("no one ahead of it", box.smallest(1) > 0 ? 1 : 0, 1);
            for (int i = 0; i < box.smallest(1); i++) {
                due("above it", box.found(i, 13) > 2237 ? 1 : 0, 1);
            }
            // Of those that are kept: the least of all may stand behind the first 30.
            box.search(10, 1, 6, 9999);
            int least = MAX;
            for (int i = 0; i < 30; i++) {
                least = Math.min(least, box.found(i, 13));
            }
            due("of the kept alone", box.smallest(2), least);
            due("Lehmer's is not among them", least > 1197 ? 1 : 0, 1);
        }
    }

    /** undo, image, back: promises 16 to 18. */
    private static final class Past {
        static void all() {
            noneToUndo();
            eightAreKept();
            ninthIsLost();
            allButTheTape();
            undoIsNotUndone();
            images();
            imageOfFound();
            backForgets();
            imagesAndUndo();
        }

        private static void noneToUndo() {
            says("16: -4 there is none");
            Box box = new Box();
            due("new", box.undo(), -4);
            box.listing(0);
            box.feed(1, 2, 3, 4, 5);
            box.image(0);
            box.end(0);
            box.read(0);
            box.by(0, 8, 0);
            due("none of these", box.undo(), -4);
            due("status()", box.status(), -4);
            due("count(12)", box.count(12), 0);
            box.cyclotomic(3, 0);
            due("one", box.count(12), 1);
            due("undo()", box.undo(), 5);
            due("status()", box.status(), 0);
            due("none", box.undo(), -4);
            due("by -4", box.count(16), 3);
        }

        private static void doAct(Box box, int kind) {
            switch (kind) {
                case 0: due("read", put(box, 0, "x^2-x-1"), 2); break;
                case 1: due("times", box.times(0, 0, 1), 4); break;
                case 2: due("by", box.by(1, 0, 2), 2); break;
                case 3: due("plus", box.plus(0, 0, 0, 3), 2); break;
                case 4: due("turn", box.turn(1, 0, 4), 2); break;
                case 5: due("cyclotomic", box.cyclotomic(5, 5), 4); break;
                case 6: due("core", box.core(3, 6), 2); break;
                case 7: due("search", box.search(2, 3, 0, 9999), 2); break;
                default: due("take", box.take(1, 7), 2);
            }
        }

        private static void eightAreKept() {
            says("16: 8 are kept; told as 0 .. 8");
            for (int acts = 8; acts <= 9; acts++) {
                for (int left = acts - 1; left >= acts - 8; left--) {
                    Box box = new Box();
                    doActs(box, acts);
                    due("8 of " + acts, box.count(12), 8);
                    for (int kind = acts - 1; kind >= left; kind--) {
                        due("undo()", box.undo(), kind);
                    }
                    due("can be undone still", box.count(12), left - acts + 8);
                    Box other = new Box();
                    doActs(other, left);
                    due("can be undone", other.count(12), left);
                    due("as it was ahead of " + left, kept(box), kept(other));
                }
                Box box = new Box();
                doActs(box, acts);
                for (int i = 0; i < 8; i++) {
                    box.undo();
                }
                due("none", box.undo(), -4);
            }
        }

        private static void doActs(Box box, int many) {
            for (int kind = 0; kind < many; kind++) {
                doAct(box, kind);
            }
        }

        private static void ninthIsLost() {
            says("16: beyond 8 the oldest is lost");
            Box box = new Box();
            for (int n = 1; n <= 30; n++) {
                put(box, 0, String.valueOf(n));
                due("count(12)", box.count(12), Math.min(8, n));
            }
            for (int n = 29; n >= 22; n--) {
                due("undo()", box.undo(), 0);
                due("number", box.coefficient(0, 0), n);
            }
            due("none", box.undo(), -4);
            due("it stays", box.coefficient(0, 0), 22);
            put(box, 0, "5");
            due("one again", box.count(12), 1);
            due("undo()", box.undo(), 0);
            due("as it was", box.coefficient(0, 0), 22);
        }

        private static void allButTheTape() {
            says("16: all but the TAPE, FAULT, what is told of REFUSED calls is as it was");
            Box box = new Box();
            box.search(2, 3, 0, 9999);
            String before = kept(box);
            write(box, "x^5");
            box.read(3);
            write(box, "abc");
            box.read(8);
            box.plus(7, 0, 0, 0);
            due("undo()", box.undo(), 0);
            due("as it was", kept(box), before);
            due("the TAPE", tape(box), "abc");
            due("FAULT", box.fault(), -1);
            due("by -1", box.count(14), 1);
            due("by -2", box.count(15), 1);
            box.read(3);
            due("undo()", box.undo(), 7);
            due("FAULT", box.fault(), 0);
            due("by -6", box.count(18), 1);
            due("FOUND", box.count(8) + box.count(9) + box.count(10) + box.count(11), 0);
            due("the TAPE", box.count(13), 0);
        }

        private static void undoIsNotUndone() {
            says("16: undo() itself is not undone");
            Box box = new Box();
            put(box, 0, "x");
            put(box, 0, "x^2");
            due("undo()", box.undo(), 0);
            due("told", box.of(0, 0), 1);
            due("undo()", box.undo(), 0);
            due("told", box.of(0, 0), 0);
            due("undo()", box.undo(), -4);
        }

        private static void images() {
            says("17: IMAGE k (0, 1): the DEGREES of STORE together. -1");
            Box box = new Box();
            due("of a new one", box.image(0), 0);
            for (int i = 0; i < 8; i++) {
                put(box, i, "x^12");
            }
            due("96", box.image(1), 96);
            int[] none = {-1, 2, 3, MIN, MAX};
            for (int k : none) {
                due("image(" + k + ")", box.image(k), -1);
                due("back(" + k + ")", box.back(k), -1);
            }
            due("by -1", box.count(14), 10);
            due("back(0)", box.back(0), 0);
            due("told", box.count(7), 0);
            due("back(1)", box.back(1), 96);
            due("told", box.count(7), 12);
            due("kept in place of the first", box.image(0), 96);
            due("back(0)", box.back(0), 96);
        }

        private static void imageOfFound() {
            says("17: of all but the TAPE, FAULT, what is told of REFUSED calls, what can be undone");
            Box box = new Box();
            box.search(2, 3, 0, 9999);
            put(box, 2, "x^2-x-1");
            box.image(0);
            String before = kept(box);
            box.search(10, 2, 0, 9999);
            put(box, 2, "y");
            write(box, "abc");
            due("back(0)", box.back(0), 2);
            due("as it was", kept(box), before);
            due("the TAPE", tape(box), "abc");
            due("FAULT", box.fault(), 0);
            due("by -6", box.count(18), 1);
            due("HIGH", box.smallest(2), 3317);
        }

        private static void backForgets() {
            says("18: nothing can be undone then. -1; -2 (it was not kept)");
            Box box = new Box();
            due("back(0)", box.back(0), -2);
            due("back(1)", box.back(1), -2);
            due("status()", box.status(), -2);
            put(box, 0, "x");
            due("image(1)", box.image(1), 1);
            due("image() leaves what can be undone", box.count(12), 1);
            due("back(0)", box.back(0), -2);
            due("REFUSED it leaves what can be undone", box.count(12), 1);
            due("back(1)", box.back(1), 1);
            due("count(12)", box.count(12), 0);
            due("undo()", box.undo(), -4);
            for (int n = 1; n <= 9; n++) {
                box.cyclotomic(1, n % 8);
            }
            due("8 again", box.count(12), 8);
            due("back(1)", box.back(1), 1);
            due("count(12)", box.count(12), 0);
            due("not kept still", box.back(0), -2);
        }

        private static void imagesAndUndo() {
            says("17: an IMAGE stays as it was kept");
            Box box = new Box();
            put(box, 0, "x^3");
            box.image(0);
            put(box, 0, "x^4");
            put(box, 0, "x^5");
            due("undo()", box.undo(), 0);
            due("undo()", box.undo(), 0);
            due("undo()", box.undo(), 0);
            due("back(0)", box.back(0), 3);
            box.times(0, 0, 0);
            box.turn(3, 0, 0);
            due("back(0)", box.back(0), 3);
            due("told", poly(box, 0), "1 0 0 0");
        }
    }

    /** What is asked of STORE: promises 1, 19, 20, 26, 27. */
    private static final class Asks {
        static void all() {
            newOne();
            powers();
            ofWhat();
            ofGreatest();
            reciprocal();
            signChanges();
            commonDivisor();
            valueArguments();
            valueBeyond();
            rootsAtEdges();
            rootsArguments();
            rootsWrapAround();
        }

        private static void newOne() {
            says("1: STORE is 1 at each place; an empty TAPE");
            Box box = new Box();
            for (int i = 0; i < 8; i++) {
                due("place " + i, poly(box, i), "1");
                due("DEGREE", box.count(i), 0);
            }
            due("bytes", box.count(13), 0);
            due("byte 0", box.tape(0), -1);
            due("all others", box.count(8) + box.count(9) + box.count(10) + box.count(11) + box.count(12), 0);
            due("of REFUSED", box.count(14) + box.count(15) + box.count(16) + box.count(17) + box.count(18), 0);
            due("status()", box.status(), 0);
            due("fault()", box.fault(), -1);
            Box other = new Box();
            put(other, 0, "x^7");
            due("objects are apart", box.count(0), 0);
        }

        private static void powers() {
            says("19: COEFFICIENT of a power (0 behind DEGREE). Integer.MIN_VALUE for others (power 0 .. 12)");
            Box box = with("-9999", "9999x^12-1", "x^6");
            due("power 0", box.coefficient(0, 0), -9999);
            due("power 1", box.coefficient(0, 1), 0);
            due("power 12", box.coefficient(0, 12), 0);
            due("power 12", box.coefficient(1, 12), 9999);
            due("power 11", box.coefficient(1, 11), 0);
            due("power 0", box.coefficient(1, 0), -1);
            due("power 7", box.coefficient(2, 7), 0);
            int[] none = {-1, 13, 14, MIN, MAX};
            for (int power : none) {
                due("power " + power, box.coefficient(1, power), MIN);
            }
            due("not REFUSED", box.count(14) + box.count(15) + box.status(), 0);
        }

        private static void ofWhat() {
            says("20: what 0 .. 9. NONE for others");
            Box box = with("-x");
            int[] want = {1, 1, 1, 1, 0, 1, 1, 1, 0, 6};
            for (int what = 0; what <= 9; what++) {
                due("of -x, " + what, box.of(0, what), want[what]);
            }
            int[] none = {-1, 10, 11, MIN, MAX};
            for (int what : none) {
                due("of(0, " + what + ")", box.of(0, what), -1);
            }
        }

        private static void ofGreatest() {
            says("20: of the greatest that can be in STORE");
            int[] want = {12, 129987, 9999, 1299740013, 1, 0, 13, 9999, 0, 2};
            Box box = with(nines("+"), nines("-"));
            for (int what = 0; what <= 9; what++) {
                due("of 9,999 each, " + what, box.of(0, what), want[what]);
                due("of -9,999 each, " + what, box.of(1, what), want[what]);
            }
        }

        private static void reciprocal() {
            says("20: 1 if RECIPROCAL (the same from behind)");
            String[] yes = {"1", "-7", "x+1", "-x-1", "x^2+1", "x^2-5x+1", "x^12+1", "2x^3-x^2-x+2", "x^12-9999x^6+1"};
            String[] no = {"x", "x-1", "x^2-1", "x^12", "x^2+x", "x^3-x^2+x-1", "x^12+x^11+1", "2x^3-x^2+x+2"};
            for (String text : yes) {
                due("of '" + text + "'", with(text).of(0, 4), 1);
            }
            for (String text : no) {
                due("of '" + text + "'", with(text).of(0, 4), 0);
            }
        }

        private static void signChanges() {
            says("20: changes of sign from one that is not 0 to the next such");
            String[] texts = {"7", "-7", "x", "x^12", "x^12-1", "x^12+1", "-x^12-x^6+1", "x^2-x+1",
                "x^12-x^11+x^10-x^9+x^8-x^7+x^6-x^5+x^4-x^3+x^2-x+1", "x^12-x^3-x^2+x"};
            int[] want = {0, 0, 0, 0, 1, 0, 1, 2, 12, 2};
            int[] terms = {1, 1, 1, 1, 2, 2, 3, 3, 13, 4};
            for (int i = 0; i < texts.length; i++) {
                due("changes of '" + texts[i] + "'", with(texts[i]).of(0, 8), want[i]);
                due("not 0 of '" + texts[i] + "'", with(texts[i]).of(0, 6), terms[i]);
            }
        }

        private static void commonDivisor() {
            says("20: the greatest that divides all");
            String[] texts = {"1", "-1", "9999", "-9999x^12", "9999x+9998", "6x^2-4", "-6x^12-9", "5000x^3+2500",
                "6765x+4181", "12x^5+18x^2-30"};
            int[] want = {1, 1, 9999, 9999, 1, 2, 3, 2500, 1, 6};
            for (int i = 0; i < texts.length; i++) {
                due("of '" + texts[i] + "'", with(texts[i]).of(0, 7), want[i]);
            }
        }

        private static void valueArguments() {
            says("26: at a whole x, -50 .. 50. Long.MIN_VALUE for others");
            Box box = with("x^2-1", "7", "x");
            due("at 50", box.value(0, 50), 2499);
            due("at -50", box.value(0, -50), 2499);
            due("at 0", box.value(0, 0), -1);
            due("at -1", box.value(0, -1), 0);
            due("x at -50", box.value(2, -50), -50);
            due("a number at 50", box.value(1, 50), 7);
            int[] none = {-51, 51, 52, MIN, MAX};
            for (int x : none) {
                due("at " + x, box.value(0, x), NO_LONG);
                due("a number at " + x, box.value(1, x), NO_LONG);
            }
        }

        private static void valueBeyond() {
            says("26: if a product or a sum on the way is beyond a long, too");
            // 8 times 32 to the 12 is 2 to the 63, one more than a long can tell.
            Box box = with("8x^12", "8x^12-1", "-8x^12+1", "-8x^12-1", "16x^12", "8x^12-x^11", "x^12", "-8x^11");
            due("2 to the 63", box.value(0, 32), NO_LONG);
            due("2 to the 63 on the way", box.value(1, 32), NO_LONG);
            due("-2 to the 63 on the way is a long", box.value(2, 32), -9223372036854775807L);
            due("-2 to the 63 less 1", box.value(3, 32), NO_LONG);
            due("2 to the 64", box.value(4, 32), NO_LONG);
            due("2 to the 63 less 2 to the 55", box.value(5, 32), 9187343239835811840L);
            due("at -32", box.value(0, -32), NO_LONG);
            due("38 to the 12", box.value(6, 38), 9065737908494995456L);
            due("39 to the 12", box.value(6, 39), NO_LONG);
            due("-38", box.value(6, -38), 9065737908494995456L);
            due("-39", box.value(6, -39), NO_LONG);
            put(box, 0, "9999x^12");
            due("17 to the 12 by 9,999", box.value(0, 17), 9999L * 582622237229761L);
            due("18 to the 12 by 9,999", box.value(0, 18), NO_LONG);
            put(box, 0, "x^12-50x^11");
            due("0 by great ones", box.value(0, 50), 0);
            put(box, 0, "-x^12-50x^11-9999");
            due("-9,999 by great ones", box.value(0, -50), -9999);
        }

        private static void rootsAtEdges() {
            says("27: whole numbers -50 .. 50 at which i is 0");
            Box box = with("x-50", "x+50", "x-51", "x+51", "x", "x^2-2500", "x+1", "x^2-2601");
            int[] many = {1, 1, 0, 0, 1, 2, 1, 0};
            int[] lowest = {50, -50, MIN, MIN, 0, -50, -1, MIN};
            int[] highest = {50, -50, MIN, MIN, 0, 50, -1, MIN};
            for (int i = 0; i < 8; i++) {
                due("how many of " + poly(box, i), box.roots(i, 0), many[i]);
                due("the least", box.roots(i, 1), lowest[i]);
                due("the greatest", box.roots(i, 2), highest[i]);
            }
            put(box, 0, "x^6-14x^4+49x^2-36");
            due("-3, -2, -1, 1, 2, 3", box.roots(0, 0), 6);
            due("the least", box.roots(0, 1), -3);
            due("the greatest", box.roots(0, 2), 3);
            put(box, 0, "2x-1");
            due("none is whole", box.roots(0, 0), 0);
            put(box, 0, "x^3-3x^2+3x-1");
            due("thrice, one number", box.roots(0, 0), 1);
            put(box, 0, "9999x^12-9999");
            due("-1 and 1", box.roots(0, 0), 2);
        }

        private static void rootsArguments() {
            says("27: Integer.MIN_VALUE without any, for others");
            Box box = with("x^2-1", "x^2+1", "7");
            for (int i = 1; i <= 2; i++) {
                due("how many", box.roots(i, 0), 0);
                due("the least", box.roots(i, 1), MIN);
                due("the greatest", box.roots(i, 2), MIN);
            }
            due("NONE is one", box.roots(0, 1), -1);
            int[] none = {-1, 3, 4, MIN, MAX};
            for (int what : none) {
                due("what " + what, box.roots(0, what), MIN);
            }
        }

        private static void rootsWrapAround() {
            says("27: what comes back to 0 in a long is not 0");
            // At 32 all of these are multiples of 2 to the 64.
            Box box = with("16x^12", "256x^12", "16x^12-512x^11", "4096x^12+4096x^11");
            due("16 times 32 to the 12", box.roots(0, 0), 1);
            due("0 alone", box.roots(0, 2), 0);
            due("256 times 32 to the 12", box.roots(1, 0), 1);
            due("0 and 32", box.roots(2, 0), 2);
            due("32", box.roots(2, 2), 32);
            due("-1 and 0", box.roots(3, 0), 2);
            due("0", box.roots(3, 2), 0);
        }
    }

    /** count and status: promises 33, 34. */
    private static final class Counts {
        static void all() {
            countArguments();
            countStore();
            refusedCounts();
            statusOfEach();
            asksLeaveStatus();
        }

        private static void countArguments() {
            says("33: NONE for others");
            Box box = new Box();
            int[] none = {-1, -2, 19, 20, MIN, MAX};
            for (int what : none) {
                due("count(" + what + ")", box.count(what), -1);
            }
            for (int what = 0; what <= 18; what++) {
                due("count(" + what + ")", box.count(what), 0);
            }
        }

        private static void countStore() {
            says("33: 0 .. 7 DEGREE of STORE, 13 bytes of the TAPE");
            Box box = new Box();
            for (int i = 0; i < 8; i++) {
                put(box, i, "x^" + (12 - i));
                due("count(" + i + ")", box.count(i), 12 - i);
            }
            for (int times = 1; times <= 20; times++) {
                box.feed(0, 0, 0, 0, 0);
                due("count(13)", box.count(13), 20 * times);
            }
            box.end(1);
            due("count(13)", box.count(13), 1);
            box.read(0);
            due("count(13)", box.count(13), 0);
        }

        private static void refusedCounts() {
            says("33: 14 .. 18 how many calls were REFUSED by -1, -2, -4, -5, -6");
            Box box = new Box();
            for (int n = 1; n <= 40; n++) {
                box.plus(2, 0, 0, 0);
                box.read(8);
                box.undo();
                box.turn(4, 0, 0);
                box.read(0);
                for (int what = 14; what <= 18; what++) {
                    due("count(" + what + ")", box.count(what), n);
                }
            }
        }

        private static void statusOfEach() {
            says("34: what the latest call was REFUSED by; 0 if it was not");
            Box box = new Box();
            int[][] calls = {{box.read(0), box.status(), -6}, {box.listing(0), box.status(), 0},
                {box.read(8), box.status(), -2}, {box.times(0, 0, 0), box.status(), 0},
                {box.times(8, 0, 0), box.status(), -2}, {box.by(0, 0, 0), box.status(), 0},
                {box.plus(2, 0, 0, 0), box.status(), -1}, {box.plus(0, 0, 0, 0), box.status(), 0},
                {box.by(1, 0, 0), box.status(), -4}, {box.turn(3, 0, 0), box.status(), 0},
                {box.turn(4, 0, 0), box.status(), -5}, {box.cyclotomic(1, 0), box.status(), 0},
                {box.cyclotomic(0, 0), box.status(), -1}, {box.core(0, 0), box.status(), 0},
                {box.core(0, 8), box.status(), -2}, {box.search(2, 3, 0, 9999), box.status(), 0},
                {box.search(10, 3, 0, 9999), box.status(), -4}, {box.take(0, 0), box.status(), 0},
                {box.take(2, 0), box.status(), -2}, {box.undo(), box.status(), 0}, {box.back(0), box.status(), -2},
                {box.image(0), box.status(), 0}, {box.image(2), box.status(), -1}, {box.back(0), box.status(), 0},
                {box.undo(), box.status(), -4}};
            for (int i = 0; i < calls.length; i++) {
                due("status() of call " + i, calls[i][1], calls[i][2]);
                due("answer of call " + i, Math.min(0, calls[i][0]), calls[i][2]);
            }
        }

        private static void asksLeaveStatus() {
            says("34: other calls leave it");
            for (int round = 0; round < 2; round++) {
                Box box = new Box();
                box.times(0, 0, round == 0 ? 8 : 0);
                int status = round == 0 ? -2 : 0;
                box.feed(0, 0, 0, 0, 0);
                box.end(-1);
                box.tape(-1);
                box.fault();
                box.coefficient(8, 0);
                box.of(8, 0);
                box.level(8, 0, 0);
                box.low(8, 0);
                box.high(8, 0);
                box.enclosed(8, 0);
                box.often(8, 0);
                box.value(8, 0);
                box.roots(8, 0);
                box.compare(8, 0, 0);
                box.surely(8, 0, 0);
                box.least(-1);
                box.found(8, 0);
                box.smallest(8);
                box.count(-1);
                due("status()", box.status(), status);
                due("again", box.status(), status);
                due("by -2", box.count(15), round == 0 ? 1 : 0);
                due("by -1", box.count(14), 0);
            }
        }
    }
}
