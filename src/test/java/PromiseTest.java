/** For each promise of the document ordinary inputs, the edges that it names, and wrong inputs. */
public final class PromiseTest {
    private static final int MIN = Integer.MIN_VALUE;
    private static int promise = 0;
    private static int checks = 0;
    private static int wrong = 0;

    public static void main(String[] args) {
        promise1();
        promise2();
        promise3();
        promise4();
        promise5();
        promise6();
        promise7();
        promise8();
        promise9();
        promise10();
        promise11();
        promise12();
        promise13();
        promise14();
        promise15();
        promise16();
        promise17();
        promise18();
        promise19();
        promise20();
        promise21();
        promise22();
        promise23();
        promise24();
        promise25();
        promise26();
        promise27();
        promise28();
        promise29();
        promise30();
        promise31();
        promise32();
        promise33();
        promise34();
        exampleOfReadme();
        everyCallWithAnyNumbers();
        System.out.println(checks + " checks of promises, " + wrong + " wrong");
        if (wrong != 0) {
            System.exit(1);
        }
    }

    private static void due(String call, long got, long want) {
        checks++;
        if (got != want) {
            wrong++;
            System.out.println("promise " + promise + ": " + call + " answered " + got + ", due is " + want);
        }
    }

    private static void due(String call, String got, String want) {
        checks++;
        if (!got.equals(want)) {
            wrong++;
            System.out.println("promise " + promise + ": " + call + " answered " + got + ", due is " + want);
        }
    }

    /** The text alone on the tape. */
    private static void write(MahlerBox box, String text) {
        box.end(0);
        for (int at = 0; at < text.length(); at += 20) {
            int[] words = new int[5];
            for (int i = 0; i < 20 && at + i < text.length(); i++) {
                words[i / 4] |= text.charAt(at + i) << 24 - i % 4 * 8;
            }
            box.feed(words[0], words[1], words[2], words[3], words[4]);
        }
        box.end(text.length());
    }

    private static int put(MahlerBox box, int place, String text) {
        write(box, text);
        return box.read(place);
    }

    private static String tape(MahlerBox box) {
        StringBuilder text = new StringBuilder();
        for (int i = 0; i < box.count(13); i++) {
            text.append((char) box.tape(i));
        }
        return text.toString();
    }

    private static String told(MahlerBox box, int place) {
        box.listing(place);
        return tape(box);
    }

    private static MahlerBox with(String... texts) {
        MahlerBox box = new MahlerBox();
        for (int i = 0; i < texts.length; i++) {
            put(box, i, texts[i]);
        }
        return box;
    }

    private static void promise1() {
        promise = 1;
        MahlerBox box = new MahlerBox();
        for (int i = 0; i < 8; i++) {
            due("degree of " + i, box.of(i, 0), 0);
            due("coefficient(" + i + ", 0)", box.coefficient(i, 0), 1);
        }
        due("count(13)", box.count(13), 0);
        due("fault()", box.fault(), -1);
        due("status()", box.status(), 0);
        for (int what = 8; what <= 18; what++) {
            due("count(" + what + ")", box.count(what), 0);
        }
    }

    private static void promise2() {
        promise = 2;
        MahlerBox box = new MahlerBox();
        due("feed", box.feed(0x01020304, 0x7f80ff00, 3, 4, -1), 20);
        int[] bytes = {1, 2, 3, 4, 127, 128, 255, 0, 0, 0, 0, 3, 0, 0, 0, 4, 255, 255, 255, 255};
        for (int i = 0; i < 20; i++) {
            due("tape(" + i + ")", box.tape(i), bytes[i]);
        }
        for (int times = 2; times <= 19; times++) {
            due("feed", box.feed(0, 0, 0, 0, times), 20 * times);
        }
        box.end(379);
        due("feed up to 399", box.feed(0, 0, 0, 0, 7), 399);
        due("feed above 400", box.feed(9, 9, 9, 9, 9), -1);
        due("the tape stays", box.count(13), 399);
        box.end(380);
        due("feed up to 400", box.feed(0, 0, 0, 0, 5), 400);
        due("tape(399)", box.tape(399), 5);
        due("feed above 400", box.feed(0, 0, 0, 0, 0), -1);
        due("feed is not REFUSED by -1", box.count(14), 0);
    }

    private static void promise3() {
        promise = 3;
        MahlerBox box = new MahlerBox();
        due("end(0)", box.end(0), 0);
        due("end(1)", box.end(1), -1);
        box.feed(1, 2, 3, 4, 5);
        due("end(21)", box.end(21), -1);
        due("end(20)", box.end(20), 20);
        due("end(-1)", box.end(-1), -1);
        due("end(4)", box.end(4), 4);
        due("tape(3)", box.tape(3), 1);
        due("tape(4)", box.tape(4), -1);
        due("end(5)", box.end(5), -1);
        due("end(MIN)", box.end(MIN), -1);
        due("end(MAX)", box.end(Integer.MAX_VALUE), -1);
        due("count(13)", box.count(13), 4);
    }

    private static void promise4() {
        promise = 4;
        MahlerBox box = new MahlerBox();
        due("tape(0)", box.tape(0), -1);
        box.feed(0xfe000000, 0, 0, 0, 0);
        due("tape(0)", box.tape(0), 254);
        due("tape(19)", box.tape(19), 0);
        due("tape(20)", box.tape(20), -1);
        due("tape(-1)", box.tape(-1), -1);
        due("tape(MIN)", box.tape(MIN), -1);
    }

    private static void promise5() {
        promise = 5;
        MahlerBox box = new MahlerBox();
        due("read(0)", put(box, 0, "x^12-3x+2"), 12);
        due("the tape is empty", box.count(13), 0);
        due("COEFFICIENT", box.coefficient(0, 1), -3);
        due("signs and blanks", put(box, 1, "  - 2 x ^ 3 + 0004 - x  "), 3);
        due("told", told(box, 1), "-2x^3-x+4");
        due("like powers", put(box, 1, "x^2+x^2-3x^2+5x^0+1+x^1"), 2);
        due("told", told(box, 1), "-x^2+x+6");
        due("noughts ahead", put(box, 1, "000000000000009999x^00012"), 12);
        due("told", told(box, 1), "9999x^12");
        due("sums on the way", put(box, 1, "9999+9999-9999"), 0);
        due("told", told(box, 1), "9999");
        due("the highest falls away", put(box, 1, "x^5-x^5+x"), 1);
        due("0x^12", put(box, 1, "0x^12+7"), 0);
        due("+x", put(box, 1, "+x"), 1);
        String before = told(box, 1);
        due("-6", put(box, 1, "x+y"), -6);
        due("the tape is empty", box.count(13), 0);
        due("STORE stays", told(box, 1), before);
        write(box, "x+y");
        due("-2", box.read(8), -2);
        due("-2", box.read(-1), -2);
        due("the tape stays", tape(box), "x+y");
        due("400 bytes", put(box, 1, "1+".repeat(199) + "10"), 0);
        due("sum", box.coefficient(1, 0), 209);
    }

    private static void fault(String text, int want) {
        MahlerBox box = new MahlerBox();
        int answer = put(box, 2, text);
        due("fault of '" + text + "'", box.fault(), want);
        due("read '" + text + "'", answer < 0 ? answer : 0, want == -1 ? 0 : -6);
    }

    private static void promise6() {
        promise = 6;
        due("ahead of any", new MahlerBox().fault(), -1);
        fault("", 0);
        fault("   ", 3);
        fault("x", -1);
        fault("x ", -1);
        fault("-", 1);
        fault("x+", 2);
        fault("x+  ", 4);
        fault("x^", 2);
        fault("x ^  ", 5);
        fault("+-x", 1);
        fault("x--1", 2);
        fault("x 2", 2);
        fault("2 34", 2);
        fault("2^3", 1);
        fault("x^2^3", 3);
        fault("x^x", 2);
        fault("x^-1", 2);
        fault("x^12", -1);
        fault("x^13", 2);
        fault("x^ 0013 ", 3);
        fault("x^99999999999999999999", 2);
        fault("9999x", -1);
        fault("10000x", 0);
        fault("3- 10000", 3);
        fault("99999999999999999999999999x+y", 0);
        fault("3x*2", 2);
        fault("X", 0);
        fault("x+1.", 3);
        fault("x\t", 1);
        fault("x+1\u0000", 3);
        fault("x\u00a01", 1);
        fault("(x)", 0);
        fault("x^2 3", 4);
        fault("xx", 1);
        fault("0", -2);
        fault("x-x", -2);
        fault("9999+1", -2);
        fault("-9999x-x", -2);
        fault("9999x^3+x-1+x^3", -2);
        MahlerBox box = new MahlerBox();
        put(box, 0, "x^");
        write(box, "x");
        box.read(9);
        due("a read() REFUSED by -2 tells none", box.fault(), 2);
        put(box, 0, "x");
        due("without one", box.fault(), -1);
        put(box, 0, "y");
        box.cyclotomic(5, 0);
        box.undo();
        due("undo() leaves it", box.fault(), 0);
    }

    private static void promise7() {
        promise = 7;
        MahlerBox box = with("x", "-x", "1", "-1", "x^12+9999x^11-x^2-2x+1", "-12x^3+5", "10x^10-100x-1000");
        String[] texts = {"x", "-x", "1", "-1", "x^12+9999x^11-x^2-2x+1", "-12x^3+5", "10x^10-100x-1000"};
        for (int i = 0; i < texts.length; i++) {
            box.feed(1, 2, 3, 4, 5);
            due("listing(" + i + ")", box.listing(i), texts[i].length());
            due("tape", tape(box), texts[i]);
        }
        due("listing(8)", box.listing(8), -2);
        due("listing(-1)", box.listing(-1), -2);
        due("the tape stays", tape(box), texts[6]);
        box.listing(4);
        due("what is told can be read", box.read(7), 12);
        due("again", told(box, 7), texts[4]);
        due("listing() is not undone", box.count(12), 8);
    }

    private static void promise8() {
        promise = 8;
        MahlerBox box = with("x^2-x-1", "x+3", "99x^6+1", "101x^6", "100x", "x^7");
        due("times", box.times(0, 1, 7), 3);
        due("told", told(box, 7), "x^3+2x^2-4x-3");
        due("into itself", box.times(7, 7, 7), 6);
        due("told", told(box, 7), "x^6+4x^5-4x^4-22x^3+4x^2+24x+9");
        due("DEGREE 12, 9,999", box.times(2, 3, 6), 12);
        due("told", told(box, 6), "9999x^12+101x^6");
        due("10,000", box.times(4, 4, 6), -5);
        due("DEGREE 13", box.times(5, 2, 6), -5);
        due("DEGREE 24", box.times(6, 6, 6), -5);
        due("nothing changes", told(box, 6), "9999x^12+101x^6");
        due("-2", box.times(8, 0, 0), -2);
        due("-2", box.times(0, -1, 0), -2);
        due("-2", box.times(0, 0, 8), -2);
        due("-2 ahead of -5", box.times(6, 6, 8), -2);
    }

    private static void promise9() {
        promise = 9;
        MahlerBox box = with("x^3+2x^2-4x-3", "x+3", "6x+4", "2", "-3x-2", "x^2-1", "2x-2", "x");
        due("by", box.by(0, 1, 0), 2);
        due("told", told(box, 0), "x^2-x-1");
        due("by a number", box.by(2, 3, 0), 1);
        due("told", told(box, 0), "3x+2");
        due("below 0", box.by(2, 4, 0), 0);
        due("told", told(box, 0), "-2");
        due("by itself", box.by(1, 1, 0), 0);
        due("not whole", box.by(1, 3, 0), -4);
        due("not whole", box.by(5, 6, 0), -4);
        due("a rest", box.by(5, 7, 0), -4);
        due("a rest", box.by(5, 1, 0), -4);
        due("of greater DEGREE", box.by(1, 5, 0), -4);
        due("-2", box.by(8, 0, 0), -2);
        due("-2", box.by(0, 8, 0), -2);
        due("-2 ahead of -4", box.by(1, 5, -1), -2);
        put(box, 0, "9999x^12-9999");
        put(box, 1, "x+9999");
        due("what goes beyond a long on the way", box.by(0, 1, 2), -4);
        put(box, 0, "x^12");
        put(box, 1, "x+8192");
        due("a rest that is a power of 2 beyond a long", box.by(0, 1, 2), -4);
        put(box, 0, "9999x^12-9999");
        put(box, 1, "9998x^2+9999x-9997");
        due("not whole", box.by(0, 1, 2), -4);
        put(box, 0, "9999x^2-9998x-1");
        put(box, 1, "x-1");
        due("9,999", box.by(0, 1, 2), 1);
        put(box, 0, "9999x^2-9999");
        due("9,999", box.by(0, 1, 2), 1);
        put(box, 0, "9999x^3-9998x^2+9998x-9999");
        due("told", box.by(0, 1, 2), 2);
        due("told", told(box, 2), "9999x^2+x+9999");
        put(box, 0, "9999x^3+x^2-9999x-1");
        due("10,000 between: it can't be in STORE", box.by(0, 1, 2), -5);
        due("the rest is seen ahead of that", box.by(0, 7, 3), -4);
    }

    private static void promise10() {
        promise = 10;
        MahlerBox box = with("x^2-x-1", "x^2+x+5", "9999x", "x", "-x^2+3");
        due("plus", box.plus(0, 0, 1, 7), 2);
        due("told", told(box, 7), "2x^2+4");
        due("less", box.plus(1, 0, 1, 7), 1);
        due("told", told(box, 7), "-2x-6");
        due("the highest falls away", box.plus(0, 0, 4, 7), 1);
        due("told", told(box, 7), "-x+2");
        due("of lesser DEGREE first", box.plus(1, 3, 0, 7), 2);
        due("told", told(box, 7), "-x^2+2x+1");
        due("nothing is left", box.plus(1, 3, 3, 7), -5);
        due("10,000", box.plus(0, 2, 3, 7), -5);
        due("9,998", box.plus(1, 2, 3, 7), 1);
        due("-1", box.plus(2, 0, 0, 0), -1);
        due("-1 ahead of -2", box.plus(-1, 8, 0, 0), -1);
        due("-2", box.plus(0, 8, 0, 0), -2);
        due("-2", box.plus(0, 0, 8, 0), -2);
        due("-2 ahead of -5", box.plus(1, 3, 3, 8), -2);
    }

    private static void promise11() {
        promise = 11;
        MahlerBox box = with("2x^3-x^2+5x+7", "x^5-2x^3", "3", "x^6+x", "x^7", "5000x^2+1", "834x^12", "833x^12+x");
        String[] turned = {"7x^3+5x^2-x+2", "-2x^3-x^2-5x+7", "2x^6-x^4+5x^2+7", "-2x^3+x^2-5x-7", "6x^2-2x+5",
            "4x^3+19x^2+39x-49"};
        int[] degrees = {3, 3, 6, 3, 2, 3};
        for (int how = 0; how < 6; how++) {
            box.undo();
            due("turn(" + how + ", 0, 7)", box.turn(how, 0, 7), degrees[how]);
            due("told", told(box, 7), turned[how]);
        }
        due("noughts at the end fall away", box.turn(0, 1, 7), 2);
        due("told", told(box, 7), "-2x^2+1");
        due("DEGREE 12", box.turn(2, 3, 7), 12);
        due("DEGREE 14", box.turn(2, 4, 7), -5);
        due("nothing is left", box.turn(4, 2, 7), -5);
        due("10,000", box.turn(4, 5, 7), -5);
        due("10,008", box.turn(4, 6, 7), -5);
        put(box, 7, "833x^12+x");
        due("9,996", box.turn(4, 7, 7), 11);
        due("a number SQUARED", box.turn(5, 2, 7), 0);
        due("told", told(box, 7), "9");
        put(box, 7, "100x-1");
        due("SQUARED 10,000", box.turn(5, 7, 7), -5);
        put(box, 7, "99x+2");
        due("SQUARED, of odd DEGREE", box.turn(5, 7, 7), 1);
        due("told", told(box, 7), "9801x-4");
        due("-1", box.turn(6, 0, 0), -1);
        due("-1 ahead of -2", box.turn(-1, 8, 0), -1);
        due("-2", box.turn(0, 8, 0), -2);
        due("-2 ahead of -5", box.turn(4, 2, 8), -2);
    }

    private static void promise12() {
        promise = 12;
        MahlerBox box = new MahlerBox();
        String[] texts = {"x-1", "x+1", "x^2+x+1", "x^2+1", "x^4+x^3+x^2+x+1", "x^2-x+1",
            "x^6+x^5+x^4+x^3+x^2+x+1", "x^4+1", "x^6+x^3+1", "x^4-x^3+x^2-x+1"};
        for (int n = 1; n <= 10; n++) {
            due("cyclotomic(" + n + ", 0)", box.cyclotomic(n, 0), new int[] {1, 1, 2, 2, 4, 2, 6, 4, 6, 4}[n - 1]);
            due("told", told(box, 0), texts[n - 1]);
        }
        box.cyclotomic(30, 1);
        due("30", told(box, 1), "x^8+x^7-x^5-x^4-x^3+x+1");
        box.cyclotomic(42, 1);
        due("42", told(box, 1), "x^12+x^11-x^9-x^8+x^6-x^4-x^3+x+1");
        box.cyclotomic(36, 1);
        due("36", told(box, 1), "x^12-x^6+1");
        int[] none = {-1, 0, 17, 19, 23, 25, 27, 29, 31, 32, 33, 34, 35, 37, 38, 39, 40, 41, 43, 60, MIN};
        for (int n : none) {
            due("cyclotomic(" + n + ", 1)", box.cyclotomic(n, 1), -1);
        }
        int can = 0;
        for (int n = 1; n <= 42; n++) {
            can += box.cyclotomic(n, 2) > 0 ? 1 : 0;
        }
        due("how many", can, 26);
        due("-2", box.cyclotomic(5, 8), -2);
        due("-1 ahead of -2", box.cyclotomic(17, 8), -1);
    }

    private static void promise13() {
        promise = 13;
        MahlerBox box = with("-3x^3+6x^2-3x", "x^12-1", "-x^5", "x^2-x-1", "-2x^3+2x^2+2x", "7", "-7");
        due("core", box.core(0, 7), 0);
        due("told", told(box, 7), "3");
        due("x^12-1", box.core(1, 7), 0);
        due("told", told(box, 7), "1");
        due("-x^5", box.core(2, 7), 0);
        due("told", told(box, 7), "1");
        due("without any", box.core(3, 7), 2);
        due("told", told(box, 7), "x^2-x-1");
        due("times -1", box.core(4, 7), 2);
        due("told", told(box, 7), "2x^2-2x-2");
        box.core(6, 7);
        due("-7", told(box, 7), "7");
        put(box, 0, "9999x^3+x^2-9999x-1");
        due("divisors of both", box.core(0, 7), 1);
        due("told", told(box, 7), "9999x+1");
        put(box, 0, "9999x^3-9998x^2-9998x+9997");
        due("-5", box.core(0, 7), 2);
        put(box, 0, "5000x^4+5000x^3-x^2-9998x-1");
        due("-5: 10,000 is left", box.core(0, 7), -5);
        due("nothing changes", box.of(7, 0), 2);
        due("-2", box.core(8, 0), -2);
        due("-2 ahead of -5", box.core(0, 8), -2);
        for (int n = 1; n <= 42; n++) {
            if (box.cyclotomic(n, 1) > 0) {
                due("CORE of CYCLOTOMIC " + n, box.core(1, 2) + 10 * box.coefficient(2, 0), 10);
            }
        }
    }

    private static void promise14() {
        promise = 14;
        MahlerBox box = new MahlerBox();
        due("Lehmer's and that of -x", box.search(10, 1, 6, 1210), 2);
        due("looked at", box.count(10), 243);
        box.take(0, 0);
        box.take(1, 1);
        due("the first", told(box, 0), "x^10-x^9+x^7-x^6+x^5-x^4+x^3-x+1");
        due("the second", told(box, 1), "x^10+x^9-x^7-x^6-x^5-x^4-x^3+x+1");
        due("HIGH at its edge", box.search(2, 3, 0, 3317), 2);
        due("HIGH above v", box.search(2, 3, 0, 3316), 0);
        due("the whole BOX", box.search(10, 2, 0, 9999), 3125 - 143);
        due("looked at", box.count(10), 3125);
        due("of measure ONE", box.count(11), 143);
        due("the first 30", box.count(8), 30);
        due("8, 3", box.search(8, 3, 6, 1309), 2);
        due("looked at", box.count(10), 2401);
        due("of measure ONE", box.count(11), 87);
        due("HIGH above v", box.search(8, 3, 6, 1308), 0);
        due("1 slowest", box.search(4, 2, 0, 9999), 12);
        String order = "";
        for (int i = 0; i < 6; i++) {
            order += box.found(i, 1) + "," + box.found(i, 2) + ";";
        }
        due("order", order, "-2,-2;-2,-1;-2,0;-2,1;-1,-2;-1,-1;");
        wrongSearches(box);
    }

    private static void wrongSearches(MahlerBox box) {
        int[] degrees = {0, 1, 3, 5, 9, 11, 12, -2};
        for (int degree : degrees) {
            due("search(" + degree + ", 1, 0, 2000)", box.search(degree, 1, 0, 2000), -1);
        }
        due("HEIGHT 0", box.search(2, 0, 0, 2000), -1);
        due("HEIGHT 4", box.search(2, 4, 0, 2000), -1);
        due("LEVEL -1", box.search(2, 1, -1, 2000), -1);
        due("LEVEL 7", box.search(2, 1, 7, 2000), -1);
        due("v 999", box.search(2, 1, 0, 999), -1);
        due("v 10,000", box.search(2, 1, 0, 10000), -1);
        due("16,807", box.search(10, 3, 0, 2000), -4);
        due("-1 ahead of -4", box.search(10, 3, 7, 2000), -1);
        due("what was FOUND stays", box.count(10), 25);
    }

    private static void promise15() {
        promise = 15;
        MahlerBox box = new MahlerBox();
        due("nothing FOUND yet", box.take(0, 0), -2);
        box.search(4, 2, 0, 9999);
        int many = box.count(8);
        due("take(0, 3)", box.take(0, 3), 4);
        for (int p = 0; p <= 4; p++) {
            due("COEFFICIENT " + p, box.coefficient(3, p), box.found(0, p));
        }
        due("the last", box.take(many - 1, 7), 4);
        due("no such one", box.take(many, 0), -2);
        due("no such one", box.take(-1, 0), -2);
        due("no such place", box.take(0, 8), -2);
        box.search(10, 2, 0, 9999);
        due("the 30th", box.take(29, 0), 10);
        due("the 31st", box.take(30, 0), -2);
    }

    private static void promise16() {
        promise = 16;
        MahlerBox box = new MahlerBox();
        due("there is none", box.undo(), -4);
        put(box, 0, "x^2-x-1");
        box.times(0, 0, 1);
        box.by(1, 0, 2);
        box.plus(0, 0, 0, 3);
        box.turn(1, 0, 4);
        box.cyclotomic(5, 5);
        box.core(5, 6);
        box.search(2, 3, 0, 9999);
        box.take(1, 7);
        due("8 are kept", box.count(12), 8);
        box.feed(1, 2, 3, 4, 5);
        due("REFUSED ones are not kept", box.turn(4, 6, 6), -5);
        due("take", box.undo(), 8);
        due("STORE 7", told(box, 7), "1");
        due("search", box.undo(), 7);
        due("FOUND", box.count(8) + box.count(9) + box.count(10) + box.count(11), 0);
        due("core", box.undo(), 6);
        due("cyclotomic", box.undo(), 5);
        due("STORE 5", told(box, 5), "1");
        due("turn", box.undo(), 4);
        due("plus", box.undo(), 3);
        due("by", box.undo(), 2);
        due("STORE 1", told(box, 1), "x^4-2x^3-x^2+2x+1");
        due("times", box.undo(), 1);
        due("STORE 1", told(box, 1), "1");
        due("the ninth is not kept", box.undo(), -4);
        due("STORE 0", told(box, 0), "x^2-x-1");
        put(box, 0, "x");
        due("read", box.undo(), 0);
        due("STORE 0", told(box, 0), "x^2-x-1");
        due("what is told of REFUSED calls stays", box.count(17), 1);
        box.search(2, 3, 0, 9999);
        box.search(2, 1, 0, 1000);
        due("search", box.undo(), 7);
        due("FOUND by the one ahead", box.count(8) + 10 * box.count(10) + 100 * box.count(11), 572);
        due("HIGH by the one ahead", box.found(1, 13), 3317);
    }

    private static void promise17() {
        promise = 17;
        MahlerBox box = with("x^2-x-1", "x^12", "x");
        due("image(0)", box.image(0), 15);
        due("image(2)", box.image(2), -1);
        due("image(-1)", box.image(-1), -1);
        put(box, 0, "x^3");
        due("image(1)", box.image(1), 16);
        box.undo();
        due("an IMAGE outlives undo()", box.back(1), 16);
        due("STORE 0", told(box, 0), "x^3");
        due("back(0)", box.back(0), 15);
        due("STORE 0", told(box, 0), "x^2-x-1");
        put(box, 3, "x^4");
        due("kept in place of another", box.image(0), 19);
        box.turn(3, 3, 4);
        due("image() is not undone", box.undo(), 4);
        due("back(0)", box.back(0), 19);
        due("again", box.back(0), 19);
    }

    private static void promise18() {
        promise = 18;
        MahlerBox box = new MahlerBox();
        due("not kept", box.back(0), -2);
        due("not kept", box.back(1), -2);
        due("-1", box.back(2), -1);
        due("-1", box.back(-1), -1);
        box.search(2, 3, 0, 9999);
        put(box, 0, "x^5");
        box.image(1);
        box.search(4, 1, 0, 1000);
        put(box, 0, "x^6-2");
        put(box, 1, "y");
        box.feed(1, 2, 3, 4, 5);
        due("back(1)", box.back(1), 5);
        due("STORE 0", box.of(0, 0), 5);
        due("FOUND", box.count(8) + 10 * box.count(10) + 100 * box.count(11), 572);
        due("nothing can be undone", box.count(12), 0);
        due("nothing can be undone", box.undo(), -4);
        due("the tape stays", box.count(13), 20);
        due("FAULT stays", box.fault(), 0);
        due("what is told of REFUSED calls stays", box.count(18), 1);
        due("not kept still", box.back(0), -2);
    }

    private static void promise19() {
        promise = 19;
        MahlerBox box = with("-9999x^3+2x");
        int[] coefficients = {0, 2, 0, -9999, 0, 0, 0, 0, 0, 0, 0, 0, 0};
        for (int p = 0; p <= 12; p++) {
            due("coefficient(0, " + p + ")", box.coefficient(0, p), coefficients[p]);
        }
        due("power 13", box.coefficient(0, 13), MIN);
        due("power -1", box.coefficient(0, -1), MIN);
        due("place 8", box.coefficient(8, 0), MIN);
        due("place -1", box.coefficient(-1, 0), MIN);
    }

    private static void of(String text, int... want) {
        MahlerBox box = with(text);
        for (int what = 0; what < want.length; what++) {
            due("of " + text + ", " + what, box.of(0, what), want[what]);
        }
    }

    private static void promise20() {
        promise = 20;
        of("1", 0, 1, 1, 1, 1, 1, 1, 1, 0, 6);
        of("-1", 0, 1, 1, 1, 1, 1, 1, 1, 0, 6);
        of("x", 1, 1, 1, 1, 0, 1, 1, 1, 0, 6);
        of("6x^4-9x^2-15", 4, 30, 15, 342, 0, 0, 3, 3, 1, 3);
        of("x^10+x^9-x^7-x^6-x^5-x^4-x^3+x+1", 10, 9, 1, 9, 1, 0, 9, 1, 2, 6);
        of("x^3-x^2+x-1", 3, 4, 1, 4, 0, 1, 4, 1, 3, 6);
        of("x^2-x-1", 2, 3, 1, 3, 0, 0, 3, 1, 1, 6);
        of("-x^4-2x^3-3x^2-2x-1", 4, 9, 3, 19, 1, 1, 5, 1, 0, 6);
        of("2x^2+4x+2", 2, 8, 4, 24, 1, 0, 3, 2, 0, 5);
        of("9999x^12+9999x^11+9999x^10+9999x^9+9999x^8+9999x^7+9999x^6+9999x^5+9999x^4+9999x^3+9999x^2+9999x"
                + "+9999", 12, 129987, 9999, 1299740013, 1, 0, 13, 9999, 0);
        of("9999", 0, 9999, 9999, 99980001, 1, 0, 1, 9999, 0, 2);
        of("3", 0, 3, 3, 9, 1, 0, 1, 3, 0, 5);
        of("2", 0, 2, 2, 4, 1, 0, 1, 2, 0, 5);
        MahlerBox box = new MahlerBox();
        due("of(0, 10)", box.of(0, 10), -1);
        due("of(0, -1)", box.of(0, -1), -1);
        due("of(8, 0)", box.of(8, 0), -1);
        due("of(-1, 0)", box.of(-1, 0), -1);
    }

    private static void promise21() {
        promise = 21;
        MahlerBox box = with("x^2-x-1", "2", "x^3-2x+5", "x-3");
        long[] traces = {-1, -3, -7, -47, -2207, -4870847, -23725150497407L};
        for (int k = 0; k <= 6; k++) {
            due("level(0, " + k + ", 1)", box.level(0, k, 1), traces[k]);
            due("level(0, " + k + ", 0)", box.level(0, k, 0), k == 0 ? -1 : 1);
            due("level(0, " + k + ", 2)", box.level(0, k, 2), 1);
            due("level(0, " + k + ", 3)", box.level(0, k, 3), 0);
        }
        due("2 to the 32", box.level(1, 5, 0), 1L << 32);
        due("2 to the 64 is BEYOND", box.level(1, 6, 0), Long.MIN_VALUE);
        due("behind DEGREE, BEYOND", box.level(1, 6, 12), Long.MIN_VALUE);
        due("odd DEGREE", box.level(2, 1, 0), -25);
        due("odd DEGREE", box.level(2, 1, 1), 4);
        due("odd DEGREE", box.level(2, 1, 2), -4);
        due("odd DEGREE", box.level(2, 1, 3), 1);
        due("DEGREE 1", box.level(3, 5, 0), -1853020188851841L);
        due("DEGREE 1", box.level(3, 6, 0), Long.MIN_VALUE);
        due("LEVEL 7", box.level(0, 7, 0), Long.MIN_VALUE);
        due("LEVEL -1", box.level(0, -1, 0), Long.MIN_VALUE);
        due("power 13", box.level(0, 0, 13), Long.MIN_VALUE);
        due("power -1", box.level(0, 0, -1), Long.MIN_VALUE);
        due("place 8", box.level(8, 0, 0), Long.MIN_VALUE);
    }

    private static void promise22() {
        promise = 22;
        MahlerBox box = with("x^2-x-1", "9999", "2", "x^2+1", "9999x^12+9999x^6", "x^2-7x+1");
        int[] lows = {1000, 1224, 1367, 1483, 1549, 1583, 1600};
        for (int k = 0; k <= 6; k++) {
            due("low(0, " + k + ")", box.low(0, k), lows[k]);
        }
        due("9,999,000", box.low(1, 0), 9999000);
        due("9,999,000", box.low(1, 2), 9999000);
        due("2,000", box.low(2, 5), 2000);
        due("BEYOND", box.low(2, 6), -1);
        due("1,000", box.low(3, 6), 1000);
        due("of the last one", box.low(4, 0), 9999000);
        due("3,500", box.low(5, 0), 3500);
        due("LEVEL 7", box.low(0, 7), -1);
        due("LEVEL -1", box.low(0, -1), -1);
        due("place 8", box.low(8, 0), -1);
        due("place -1", box.low(-1, 0), -1);
    }

    private static void promise23() {
        promise = 23;
        MahlerBox box = with("x^2-x-1", "9999", "2", "3x-4", "x^2+2x+2");
        int[] highs = {1733, 1822, 1635, 1619, 1619, 1619, 1619};
        for (int k = 0; k <= 6; k++) {
            due("high(0, " + k + ")", box.high(0, k), highs[k]);
        }
        due("9,999,000", box.high(1, 2), 9999000);
        due("2,000", box.high(2, 5), 2000);
        due("BEYOND", box.high(2, 6), -1);
        due("5,000, exactly", box.high(3, 0), 5000);
        due("3,000, exactly", box.high(4, 0), 3000);
        due("LEVEL 7", box.high(0, 7), -1);
        due("LEVEL -1", box.high(0, -1), -1);
        due("place 8", box.high(8, 0), -1);
    }

    private static void promise24() {
        promise = 24;
        MahlerBox box = with("x^2-x-1", "1", "9999", "x^10+x^9-x^7-x^6-x^5-x^4-x^3+x+1");
        due("greatest LOW", box.enclosed(0, 0), 1600);
        due("least HIGH", box.enclosed(0, 1), 1619);
        due("LEVEL of that LOW", box.enclosed(0, 2), 6);
        due("the first LEVEL of that HIGH", box.enclosed(0, 3), 3);
        due("the first LEVEL", box.enclosed(1, 2), 0);
        due("the first LEVEL", box.enclosed(1, 3), 0);
        due("1", box.enclosed(1, 0), 1000);
        due("1", box.enclosed(1, 1), 1000);
        due("9,999", box.enclosed(2, 0), 9999000);
        due("9,999", box.enclosed(2, 1), 9999000);
        due("Lehmer's", box.enclosed(3, 0), 1134);
        due("Lehmer's", box.enclosed(3, 1), 1197);
        due("Lehmer's", box.enclosed(3, 2), 6);
        due("Lehmer's", box.enclosed(3, 3), 6);
        due("what 4", box.enclosed(0, 4), -1);
        due("what -1", box.enclosed(0, -1), -1);
        due("place 8", box.enclosed(8, 0), -1);
    }

    private static void promise25() {
        promise = 25;
        MahlerBox box = with("x^12-1", "x^12", "-5x^4+15x^3-15x^2+5x", "7");
        for (int n = 0; n <= 43; n++) {
            boolean none = n == 43 || box.cyclotomic(n, 7) < 0 && n != 0;
            due("often(0, " + n + ")", box.often(0, n), none ? -1 : n > 0 && 12 % n == 0 ? 1 : 0);
        }
        due("x", box.often(1, 0), 12);
        due("x", box.often(2, 0), 1);
        due("three times", box.often(2, 1), 3);
        due("a number", box.often(3, 1), 0);
        due("a number", box.often(3, 0), 0);
        put(box, 4, "x-1");
        box.times(4, 4, 4);
        box.times(4, 4, 4);
        box.turn(2, 4, 5);
        due("four times", box.often(5, 1), 4);
        due("four times", box.often(5, 2), 4);
        due("-1", box.often(0, -1), -1);
        due("place 8", box.often(8, 1), -1);
        due("place -1", box.often(-1, 1), -1);
    }

    private static void promise26() {
        promise = 26;
        MahlerBox box = with("9999x^12-9999", "-2x^3+5", "7", "x^12", "9999x^8", "x^11-x^10");
        due("at 2", box.value(0, 2), 40945905L);
        due("at 0", box.value(0, 0), -9999);
        due("at 1", box.value(0, 1), 0);
        due("at 50", box.value(0, 50), Long.MIN_VALUE);
        due("at -50", box.value(1, -50), 250005);
        due("at 50", box.value(1, 50), -249995);
        due("a number", box.value(2, 50), 7);
        due("38 to the 12", box.value(3, 38), 9065737908494995456L);
        due("-38 to the 12", box.value(3, -38), 9065737908494995456L);
        due("39 to the 12", box.value(3, 39), Long.MIN_VALUE);
        due("9,999 times 50 to the 8", box.value(4, 50), 9999L * 39062500000000L);
        due("at -50, of odd DEGREE", box.value(5, -50), -4980468750000000000L);
        put(box, 6, "16x^12");
        due("2 to the 64", box.value(6, 32), Long.MIN_VALUE);
        put(box, 6, "-8x^12");
        due("-2 to the 63 is a long", box.value(6, 32), Long.MIN_VALUE);
        put(box, 6, "-8x^12+1");
        due("-2 to the 63 and 1", box.value(6, 32), Long.MIN_VALUE + 1);
        put(box, 6, "8x^12-1");
        due("2 to the 63 on the way", box.value(6, 32), Long.MIN_VALUE);
        due("at 51", box.value(1, 51), Long.MIN_VALUE);
        due("at -51", box.value(1, -51), Long.MIN_VALUE);
        due("place 8", box.value(8, 0), Long.MIN_VALUE);
    }

    private static void promise27() {
        promise = 27;
        MahlerBox box = with("x^2-1", "x^3-50x^2", "x^2+x+1", "7", "x+50", "x-51", "x^12-50x^11", "2x-1");
        int[] many = {2, 2, 0, 0, 1, 0, 2, 0};
        int[] lowest = {-1, 0, MIN, MIN, -50, MIN, 0, MIN};
        int[] highest = {1, 50, MIN, MIN, -50, MIN, 50, MIN};
        for (int i = 0; i < 8; i++) {
            due("roots(" + i + ", 0)", box.roots(i, 0), many[i]);
            due("roots(" + i + ", 1)", box.roots(i, 1), lowest[i]);
            due("roots(" + i + ", 2)", box.roots(i, 2), highest[i]);
        }
        due("what 3", box.roots(0, 3), MIN);
        due("what -1", box.roots(0, -1), MIN);
        due("place 8", box.roots(8, 0), MIN);
        put(box, 0, "x^4");
        due("once", box.roots(0, 0), 1);
        put(box, 0, "16x^12");
        due("2 to the 64 is not 0", box.roots(0, 0), 1);
        put(box, 0, "9999x^3+9999x^2-9999x-9999");
        due("by great sums", box.roots(0, 0), 2);
        due("by great sums", box.roots(0, 2), 1);
    }

    private static void promise28() {
        promise = 28;
        MahlerBox box = with("x^2-x-1", "2", "x^2-3x+1", "9999", "x^2-2x-1");
        due("1.618 and 2", box.compare(0, 1, 3), -1);
        due("2 and 1.618", box.compare(1, 0, 3), 1);
        due("not to be told yet", box.compare(0, 2, 0), 0);
        due("told at LEVEL 2", box.compare(0, 2, 2), -1);
        due("with itself", box.compare(0, 0, 6), 0);
        due("of each its greatest LEVEL", box.compare(3, 1, 6), 1);
        due("of each its greatest LEVEL", box.compare(1, 3, 6), -1);
        due("2 and 2.414", box.compare(1, 4, 6), -1);
        due("place 8", box.compare(8, 0, 0), -2);
        due("place 8", box.compare(0, 8, 0), -2);
        due("LEVEL 7", box.compare(0, 0, 7), -2);
        due("LEVEL -1", box.compare(0, 0, -1), -2);
        due("not REFUSED", box.count(15), 0);
    }

    private static void promise29() {
        promise = 29;
        MahlerBox box = with("x^2-x-1", "9999", "2");
        due("HIGH", box.surely(0, 3, 1619), 1);
        due("below HIGH", box.surely(0, 3, 1618), -1);
        due("LOW", box.surely(0, 3, 1483), -1);
        due("below LOW", box.surely(0, 3, 1482), 0);
        due("v 0", box.surely(0, 0, 0), 0);
        due("v 99,999,999", box.surely(1, 0, 99999999), 1);
        due("v 100,000,000", box.surely(1, 0, 100000000), -2);
        due("v -1", box.surely(1, 0, -1), -2);
        due("BEYOND: by the greatest that isn't", box.surely(2, 6, 2000), 1);
        due("BEYOND: by the greatest that isn't", box.surely(2, 6, 1999), 0);
        due("LEVEL 7", box.surely(0, 7, 0), -2);
        due("LEVEL -1", box.surely(0, -1, 0), -2);
        due("place 8", box.surely(8, 0, 0), -2);
    }

    private static void promise30() {
        promise = 30;
        MahlerBox box = with("x^2-x-1", "2", "x^2-3x+1", "x^3-x-1", "2x", "9999", "x^12+x+1", "x^10-1");
        due("1.618, 2", box.least(0b11), 0);
        due("1.618, 2, 2.618, 1.324", box.least(0b1111), 3);
        due("2, 2", box.least(0b10010), -1);
        due("2, 2, 1.618", box.least(0b10011), 0);
        due("one alone", box.least(1 << 5), 5);
        due("one alone, of measure ONE", box.least(1 << 7), 7);
        due("empty", box.least(0), -1);
        due("256", box.least(256), -1);
        due("257", box.least(257), -1);
        due("-1", box.least(-1), -1);
        due("MIN", box.least(MIN), -1);
    }

    private static void promise31() {
        promise = 31;
        MahlerBox box = new MahlerBox();
        due("nothing FOUND yet", box.found(0, 0), MIN);
        box.search(2, 3, 2, 9999);
        int[] first = {1, -3, 1};
        for (int p = 0; p <= 2; p++) {
            due("found(0, " + p + ")", box.found(0, p), first[p]);
        }
        for (int what = 3; what <= 12; what++) {
            due("found(0, " + what + ")", box.found(0, what), MIN);
        }
        put(box, 0, "x^2-3x+1");
        due("HIGH", box.found(0, 13), box.high(0, 2));
        due("LOW", box.found(0, 14), box.low(0, 2));
        due("LEVEL", box.found(0, 15), 2);
        due("what 16", box.found(0, 16), MIN);
        due("what -1", box.found(0, -1), MIN);
        due("found(2, 0)", box.found(2, 0), MIN);
        due("found(-1, 0)", box.found(-1, 0), MIN);
        box.search(2, 3, 6, 9999);
        due("LEVEL 6 of x^2-3x+1 is not BEYOND", box.found(0, 15), box.of(0, 9));
        box.search(10, 2, 6, 9999);
        due("LEVEL of one BEYOND at 6", box.found(0, 15), 5);
        box.take(0, 1);
        due("HIGH", box.found(0, 13), box.high(1, 5));
        due("power 10", box.found(0, 10), 1);
        due("power 11", box.found(0, 11), MIN);
    }

    private static void promise32() {
        promise = 32;
        MahlerBox box = new MahlerBox();
        due("without any", box.smallest(0), -1);
        due("without any", box.smallest(1), -1);
        due("without any", box.smallest(2), -1);
        box.search(10, 1, 6, 1300);
        int high = Integer.MAX_VALUE;
        int first = -1;
        int many = 0;
        for (int i = 0; i < box.count(8); i++) {
            many = box.found(i, 13) < high ? 1 : many + (box.found(i, 13) == high ? 1 : 0);
            first = box.found(i, 13) < high ? i : first;
            high = Math.min(high, box.found(i, 13));
        }
        due("more than those", box.count(8) > many ? 1 : 0, 1);
        due("how many", box.smallest(0), many);
        due("the first", box.smallest(1), first);
        due("that HIGH", box.smallest(2), high);
        due("that HIGH is Lehmer's", box.smallest(2), 1197);
        due("what 3", box.smallest(3), -1);
        due("what -1", box.smallest(-1), -1);
    }

    private static void promise33() {
        promise = 33;
        MahlerBox box = with("x", "x^2", "x^3", "x^4", "x^5", "x^6", "x^7", "x^8");
        for (int i = 0; i < 8; i++) {
            due("count(" + i + ")", box.count(i), i + 1);
        }
        box.search(4, 2, 0, 9999);
        due("FOUND that are kept", box.count(8), 12);
        due("FOUND in all", box.count(9), 12);
        due("looked at", box.count(10), 25);
        due("of measure ONE", box.count(11), 13);
        due("can be undone", box.count(12), 8);
        box.undo();
        due("can be undone", box.count(12), 7);
        box.feed(1, 2, 3, 4, 5);
        due("bytes", box.count(13), 20);
        box.plus(3, 0, 0, 0);
        box.image(3);
        box.back(3);
        box.search(1, 1, 1, 1);
        box.cyclotomic(0, 0);
        box.listing(8);
        box.take(0, 0);
        box.back(0);
        box.search(10, 3, 0, 1000);
        box.by(0, 1, 0);
        box.back(1);
        box.plus(1, 0, 0, 0);
        put(box, 0, "y");
        put(box, 0, "");
        due("REFUSED by -1", box.count(14), 5);
        due("REFUSED by -2", box.count(15), 4);
        due("REFUSED by -4", box.count(16), 2);
        due("REFUSED by -5", box.count(17), 1);
        due("REFUSED by -6", box.count(18), 2);
        box.of(9, 9);
        box.feed(0, 0, 0, 0, 0);
        box.end(-1);
        box.surely(0, 0, -1);
        due("others are not REFUSED", box.count(14) + box.count(15), 9);
        due("count(19)", box.count(19), -1);
        due("count(-1)", box.count(-1), -1);
        due("count(MIN)", box.count(MIN), -1);
    }

    private static void promise34() {
        promise = 34;
        MahlerBox box = new MahlerBox();
        due("ahead of any", box.status(), 0);
        box.read(0);
        due("read", box.status(), -6);
        box.count(99);
        box.coefficient(9, 9);
        box.compare(9, 9, 9);
        box.feed(0, 0, 0, 0, 0);
        box.end(99);
        box.fault();
        box.status();
        due("other calls leave it", box.status(), -6);
        box.listing(0);
        due("listing", box.status(), 0);
        box.listing(8);
        due("listing", box.status(), -2);
        box.times(0, 0, 0);
        due("times", box.status(), 0);
        box.by(0, 8, 0);
        due("by", box.status(), -2);
        box.plus(0, 0, 0, 0);
        due("plus", box.status(), 0);
        box.by(1, 0, 0);
        due("by", box.status(), -4);
        box.turn(3, 0, 0);
        due("turn", box.status(), 0);
        box.turn(4, 0, 0);
        due("turn", box.status(), -5);
        box.cyclotomic(1, 0);
        due("cyclotomic", box.status(), 0);
        box.cyclotomic(17, 0);
        due("cyclotomic", box.status(), -1);
        box.core(0, 0);
        due("core", box.status(), 0);
        box.search(10, 3, 0, 1000);
        due("search", box.status(), -4);
        box.search(2, 3, 0, 9999);
        due("search", box.status(), 0);
        box.take(2, 0);
        due("take", box.status(), -2);
        box.take(1, 0);
        due("take", box.status(), 0);
        box.back(0);
        due("back", box.status(), -2);
        box.image(0);
        due("image", box.status(), 0);
        box.image(2);
        due("image", box.status(), -1);
        box.back(0);
        due("back", box.status(), 0);
        box.undo();
        due("undo", box.status(), -4);
        box.core(0, 0);
        box.core(9, 0);
        due("core", box.status(), -2);
        box.undo();
        due("undo", box.status(), 0);
    }

    /** README.md tells these answers. */
    private static void exampleOfReadme() {
        promise = 0;
        MahlerBox box = new MahlerBox();
        due("feed", box.feed(0x785E322D, 0x782D3100, 0, 0, 0), 20);
        due("end(7)", box.end(7), 7);
        due("read(0)", box.read(0), 2);
        due("high(0, 3)", box.high(0, 3), 1619);
        due("enclosed(0, 0)", box.enclosed(0, 0), 1600);
        due("search(10, 1, 6, 1210)", box.search(10, 1, 6, 1210), 2);
        due("take(1, 2)", box.take(1, 2), 10);
        due("listing(2)", box.listing(2), 32);
        due("tape", tape(box), "x^10+x^9-x^7-x^6-x^5-x^4-x^3+x+1");
        due("compare(2, 0, 6)", box.compare(2, 0, 6), -1);
        due("undo()", box.undo(), 8);
        due("times(0, 0, 8)", box.times(0, 0, 8), -2);
        due("status()", box.status(), -2);
        due("count(15)", box.count(15), 1);
    }

    /** No call may throw, whatever it is given. */
    private static void everyCallWithAnyNumbers() {
        promise = 0;
        int[] any = {MIN, MIN + 1, -65537, -256, -2, -1, 0, 1, 7, 8, 12, 13, 42, 1000, 65536, Integer.MAX_VALUE - 1,
            Integer.MAX_VALUE};
        MahlerBox box = with("x^12-1", "9999x^12-9999x^11", "-x", "0x+3");
        box.search(10, 2, 0, 9999);
        long sum = 0;
        for (int a : any) {
            for (int b : any) {
                sum += box.end(a) + box.tape(a) + box.read(a) + box.listing(a) + box.take(a, b) + box.image(a);
                sum += box.coefficient(a, b) + box.of(a, b) + box.low(a, b) + box.high(a, b) + box.enclosed(a, b);
                sum += box.often(a, b) + box.value(a, b) + box.roots(a, b) + box.found(a, b) + box.core(a, b);
                sum += box.cyclotomic(a, b) + box.least(a) + box.smallest(a) + box.count(a) + box.back(a);
                for (int c : any) {
                    sum += box.times(a, b, c) + box.by(a, b, c) + box.turn(a, b, c) + box.level(a, b, c);
                    sum += box.compare(a, b, c) + box.surely(a, b, c) + box.plus(1, a, b, c) + box.plus(a, 0, b, c);
                    sum += box.search(a, b, c, 1000) + box.search(2, a, b, c) + box.undo();
                }
            }
        }
        due("an object goes on", put(box, 0, "x^3"), 3);
    }
}
