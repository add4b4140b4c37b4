/** Promises 7 to 14: the tape, rows, laws, orders, faults, where orders stopped. */
public final class TextsTest {
    private static int wrong = 0;

    private static void due(int promise, String call, long got, long want) {
        if (got != want) {
            wrong++;
            System.out.println("promise " + promise + ": " + call + " answered " + got + ", due is " + want);
        }
    }

    public static void main(String[] args) {
        feedingAndEnding();
        rows();
        lawsAreKept();
        lawFaults();
        limitsOfTexts();
        sumsAndTests();
        brokenOnes();
        lastThatHolds();
        wordsOfLaws();
        orderFaults();
        ordersRun();
        wordsOfOrders();
        ordersStopped();
        ordersWithIf();
        System.out.println(wrong == 0 ? "TextsTest: all answers are as due" : "TextsTest: " + wrong + " wrong");
        if (wrong != 0) {
            System.exit(1);
        }
    }

    private static void put(SmokeTune x, String text) {
        for (int i = 0; i < text.length(); i += 20) {
            int[] five = new int[5];
            for (int k = 0; k < 20; k++) {
                five[k / 4] = five[k / 4] << 8 | (i + k < text.length() ? text.charAt(i + k) : 0);
            }
            x.feed(five[0], five[1], five[2], five[3], five[4]);
        }
        x.end(text.length());
    }

    private static int law(SmokeTune x, String text) {
        put(x, text);
        return x.law();
    }

    private static int orders(SmokeTune x, String text) {
        put(x, text);
        return x.orders();
    }

    private static String many(String text, int times) {
        StringBuilder all = new StringBuilder();
        for (int i = 0; i < times; i++) {
            all.append(text);
        }
        return all.toString();
    }

    /** What "burns" with that sum tells of a house with note 3, street 2, coal 9, fire 4; 20 - sum shows those below 0, too. */
    private static int sum(String text) {
        SmokeTune x = new SmokeTune();
        x.house(0, 0, 5, 0, 0);
        x.house(3, 2, 10, 1, 1);
        x.stoke(1);
        int law = law(x, "burns " + text);
        x.force(law);
        return law < 0 ? law : x.of(1, 8);
    }

    /** 1 if the test is so, 0 if it is not so or broken, below 0 if it can't be. */
    private static int test(String text) {
        SmokeTune x = new SmokeTune();
        x.house(0, 0, 5, 0, 0);
        x.house(3, 2, 10, 1, 1);
        x.stoke(1);
        int law = law(x, "bars if " + text);
        x.force(law);
        return law < 0 ? law : x.of(1, 10);
    }

    private static void feedingAndEnding() {
        SmokeTune x = new SmokeTune();
        due(7, "feed", x.feed(0x62616273, 0, 0, 0, 0), 20);
        due(8, "end(21)", x.end(21), -1);
        due(8, "end(-1)", x.end(-1), -1);
        due(8, "end(MIN)", x.end(Integer.MIN_VALUE), -1);
        due(8, "end(20)", x.end(20), 20);
        due(8, "end(0)", x.end(0), 0);
        due(8, "end(1) of none", x.end(1), -1);
        due(8, "NONE is no REFUSAL", x.status(), 0);
        for (int i = 1; i <= 20; i++) {
            due(7, "feed", x.feed(i, i, i, i, i), 20 * i);
        }
        due(7, "feed beyond 400", x.feed(1, 1, 1, 1, 1), -1);
        due(7, "count(5)", x.count(5), 400);
        due(7, "NONE is no REFUSAL", x.status(), 0);
        due(8, "end(381)", x.end(381), 381);
        due(7, "feed beyond 400, not in part", x.feed(1, 1, 1, 1, 1), -1);
        due(8, "end(380)", x.end(380), 380);
        due(7, "feed to 400", x.feed(1, 1, 1, 1, 1), 400);
        SmokeTune y = new SmokeTune();
        y.feed(0x01020304, 0x05060708, 0x090A0B0C, 0x0D0E0F10, 0x11121314);
        y.feed(0x15161718, 0x7F80FF00, -1, Integer.MIN_VALUE, Integer.MAX_VALUE);
        due(9, "row()", y.row(), 24);
        due(10, "ash()", y.ash(), 16);
        for (int i = 0; i < 24; i++) {
            due(7, "bytes in order, the highest first: chord(" + i + ")", y.chord(i), i + 1);
        }
        y.feed(0x7F80FFFE, 0x00000005, 0, 0, 0);
        y.end(8);
        due(9, "row() of bytes beyond 127", y.row(), 5);
        due(10, "ash()", y.ash(), 3);
        due(9, "chord(0)", y.chord(0), 127);
        due(9, "chord(1) as it was", y.chord(1), 2);
        due(9, "chord(4)", y.chord(4), 0);
        due(9, "chord(7)", y.chord(7), 5);
        due(9, "chord(8) as it was", y.chord(8), 9);
    }

    private static void rows() {
        SmokeTune x = new SmokeTune();
        due(9, "row() of an empty TAPE", x.row(), -6);
        due(9, "status()", x.status(), -6);
        due(10, "ash() ahead of any", x.ash(), 0);
        x.feed(-1, 0, 0, 0, 0);
        x.end(1);
        due(9, "row() of ASH alone", x.row(), 0);
        due(9, "the TAPE is empty then", x.count(5), 0);
        due(10, "ash()", x.ash(), 1);
        due(9, "row()", x.row(), -6);
        due(10, "ash() of the latest that was not REFUSED", x.ash(), 1);
        x.feed(0, 0, 0, 0, 0);
        due(9, "row() of 20", x.row(), 20);
        due(10, "ash()", x.ash(), 0);
    }

    private static void lawsAreKept() {
        SmokeTune x = new SmokeTune();
        due(11, "law() of an empty TAPE", x.law(), -6);
        due(13, "fault()", x.fault(), 0);
        due(11, "law() of blanks", law(x, "   "), -6);
        due(13, "fault()", x.fault(), 3);
        for (int i = 0; i < 6; i++) {
            due(11, "law()", law(x, "burns " + i), i);
            due(13, "fault()", x.fault(), -1);
        }
        due(11, "the TAPE is empty then", x.count(5), 0);
        due(12, "orders() that can't be", orders(x, "stoke"), -6);
        due(13, "fault()", x.fault(), 5);
        put(x, "burns 1");
        due(11, "a seventh law()", x.law(), -5);
        due(11, "status()", x.status(), -5);
        due(11, "the TAPE is empty then, too", x.count(5), 0);
        due(13, "it was not read: fault() of the latest that was", x.fault(), 5);
        put(x, "x");
        due(11, "-5 is ahead of -6", x.law(), -5);
        due(11, "count(3)", x.count(3), 6);
        due(11, "count(9)", x.count(9), 2);
        due(11, "count(10)", x.count(10), 3);
    }

    private static void fault(boolean asLaw, String text, int place) {
        SmokeTune x = new SmokeTune();
        put(x, text);
        int answer = asLaw ? x.law() : x.orders();
        due(asLaw ? 11 : 12, (asLaw ? "law() of '" : "orders() of '") + text + "'", answer, place < 0 ? 0 : -6);
        due(13, "fault() of '" + text + "'", x.fault(), place);
        due(13, "the TAPE is empty behind '" + text + "'", x.count(5), 0);
    }

    private static void lawFaults() {
        fault(true, "burns 1", -1);
        fault(true, "  burns  1  ", -1);
        fault(true, "burns1if2<3", -1);
        fault(true, "bars", -1);
        fault(true, "bars;bars", -1);
        fault(true, "bars;", 5);
        fault(true, "bars;  ", 7);
        fault(true, ";bars", 0);
        fault(true, "bars bars", 5);
        fault(true, "bars 1", 5);
        fault(true, "Bars", 0);
        fault(true, "ars", 0);
        fault(true, "rs", 0);
        fault(true, "barss", 0);
        fault(true, "bar", 0);
        fault(true, "burn s 1", 0);
        fault(true, "burns ote", 6);
        fault(true, "burns fir", 6);
        fault(true, "burns firez", 6);
        fault(true, "burns firea", 6);
        fault(true, "burns zfire", 6);
        fault(true, "burns fireZ", 10);
        fault(true, "burns fire`", 10);
        fault(true, "burns fire{", 10);
        fault(true, "burns 1/", 8);
        fault(true, "burns 1:", 7);
        fault(true, "burns 1a", 7);
        fault(true, "burns 10900", 6);
        fault(true, "burns 1 0", 8);
        fault(true, "barsif 1=1", 0);
        fault(true, "bars if", 7);
        fault(true, "bars if 1", 9);
        fault(true, "bars if 1 ", 10);
        fault(true, "bars if 1 < ", 12);
        fault(true, "bars if 1<2<3", 11);
        fault(true, "bars if not", 11);
        fault(true, "bars if not not 1=1", -1);
        fault(true, "bars if (1=1", 12);
        fault(true, "bars if (1=1]", 12);
        fault(true, "bars if (1)=1", 10);
        fault(true, "bars if [1=1]", 10);
        fault(true, "bars if [1]=1", -1);
        fault(true, "bars if 1=1 and", 15);
        fault(true, "bars if 1=1 or or", 15);
        fault(true, "bars if 1=1)", 11);
        fault(true, "bars if 1+(1)=1", 10);
        fault(true, "bars if 1=not 1", 10);
        fault(true, "burns", 5);
        fault(true, "burns ;", 6);
        fault(true, "burns if 1=1", 6);
        fault(true, "burns -1", 6);
        fault(true, "burns 1+", 8);
        fault(true, "burns 1++1", 8);
        fault(true, "burns 1 1", 8);
        fault(true, "burns (1)", 6);
        fault(true, "burns []", 7);
        fault(true, "burns [1", 8);
        fault(true, "burns [1)", 8);
        fault(true, "burns 1]", 7);
        fault(true, "burns 1 times 2", 8);
        fault(true, "burns 1 by 2", 8);
        fault(true, "burns done", 6);
        fault(true, "burns fire 1", 11);
        fault(true, "burns firecoal", 6);
        fault(true, "burns fire\tif 1=1", 10);
        fault(true, "burns 1\n", 7);
        fault(true, "stoke 1", 0);
        fault(true, "burns 1" + (char) 0, 7);
        fault(true, "burns " + (char) 233, 6);
        fault(true, "burns 1000", -1);
        fault(true, "burns 1001", 6);
        fault(true, "burns 0001000", -1);
        fault(true, "burns 99999999999999999999", 6);
        fault(true, "burns 4294967297", 6);
        fault(true, "burns 1&1", 7);
    }

    private static void limitsOfTexts() {
        fault(true, many("bars;", 11) + "bars", -1);
        fault(true, many("bars;", 12) + " bars", 61);
        fault(true, many("bars;", 12), 60);
        fault(true, many("bars;", 12) + " x", 61);
        fault(false, many("pass;", 12) + "pass", 60);
        fault(true, "burns 1" + many("+1", 49), -1);
        fault(true, "burns 1" + many("+1", 50), 106);
        fault(true, "burns 1" + many("+1", 49) + "+fire", 106);
        fault(true, "burns 1" + many("+1", 49) + "+[1]", 107);
        fault(true, "burns 1" + many("+1", 24) + ";burns 1" + many("+1", 25), 112);
        fault(true, "burns 1" + many("+1", 24) + ";burns 1" + many("+1", 24), -1);
        fault(true, "burns " + many("[", 8) + "1" + many("]", 8), -1);
        fault(true, "burns " + many("[", 9) + "1" + many("]", 9), 14);
        fault(true, "bars if " + many("(", 8) + "1=1" + many(")", 8), -1);
        fault(true, "bars if " + many("(", 9) + "1=1" + many(")", 9), 16);
        fault(true, "bars if " + many("(", 4) + many("[", 4) + "1" + many("]", 4) + "=1" + many(")", 4), -1);
        fault(true, "bars if " + many("(", 4) + many("[", 5) + "1" + many("]", 5) + "=1" + many(")", 4), 16);
        fault(true, "burns " + many("[1]+", 12) + "1", -1);
        fault(true, "bars if " + many("(1=1)or", 12) + "1=1", -1);
        fault(true, "bars if " + many("not ", 97) + "1=1", -1);
        // H, N, TIMES are no PARTS
        String order = "stoke fire 0+fire 0+coal 1+sounds 2 times 2;";
        fault(false, many(order, 8) + "x", 44 * 8);
        String words = "damp fire 0" + many("+fire 0", 23) + " by coal 7" + many("+coal 7", 24);
        due(12, "49 PARTS with H", orders(new SmokeTune(), words), -3);
        fault(false, words + ";stoke 1;stoke 2", words.length() + 15);
        SmokeTune x = new SmokeTune();
        x.house(0, 0, 5, 0, 0);
        String longest = "burns 7" + many(" ", 393);
        due(11, "law() of 400 bytes", law(x, longest), 0);
        x.force(0);
        due(11, "of(0, 8)", x.of(0, 8), 7);
        due(11, "law() of 400 bytes with a FAULT at the end", law(x, "burns " + many(" ", 394)), -6);
        due(13, "fault()", x.fault(), 400);
        put(x, "bars" + many(" ", 395) + ";");
        due(11, "law()", x.law(), -6);
        due(13, "fault()", x.fault(), 400);
    }

    private static void sumsAndTests() {
        due(11, "2+3*4", sum("2+3*4"), 14);
        due(11, "2*3+4", sum("2*3+4"), 10);
        due(11, "[2+3]*4", sum("[2+3]*4"), 20);
        due(11, "20-3-4", sum("20-3-4"), 13);
        due(11, "20-[3-4]", sum("20-[3-4]-2"), 19);
        due(11, "100/7/2", sum("100/7/2"), 7);
        due(11, "17%10*2", sum("17%10*2"), 14);
        due(11, "7*2%10", sum("7*2%10"), 4);
        due(11, "/ cut towards 0", sum("10+[0-7]/2"), 7);
        due(11, "% what is left then", sum("10+[0-7]%2"), 9);
        due(11, "% by one below 0", sum("10+7%[0-4]"), 13);
        due(11, "/ by one below 0", sum("10+7/[0-4]"), 9);
        due(11, "2+3*4-10/5", sum("2+3*4-10/5"), 12);
        due(11, "1-2+3", sum("1-2+3"), 2);
        due(11, "[[1+2]*[3+1]]", sum("[[1+2]*[3+1]]"), 12);
        due(11, "clamped to 20", sum("21"), 20);
        due(11, "clamped to 0", sum("1-2"), 0);
        due(11, "1<2", test("1<2"), 1);
        due(11, "2<1", test("2<1"), 0);
        due(11, "1<1", test("1<1"), 0);
        due(11, "2>1", test("2>1"), 1);
        due(11, "1>1", test("1>1"), 0);
        due(11, "1=1", test("1=1"), 1);
        due(11, "1=2", test("1=2"), 0);
        due(11, "not 1=2", test("not 1=2"), 1);
        due(11, "not 1=1", test("not 1=1"), 0);
        due(11, "not 1<2", test("not 1<2"), 0);
        due(11, "not 2>1", test("not 2>1"), 0);
        due(11, "not 2<1", test("not 2<1"), 1);
        due(11, "not not 1=2", test("not not 1=2"), 0);
        due(11, "or behind and", test("1=1 or 1=1 and 1=2"), 1);
        due(11, "and ahead of or", test("1=2 and 1=1 or 1=1"), 1);
        due(11, "brackets", test("(1=1 or 1=1) and 1=2"), 0);
        due(11, "not binds the nearest", test("not 1=2 and 1=2"), 0);
        due(11, "not of brackets", test("not (1=2 and 1=2)"), 1);
        due(11, "or or", test("1=2 or 1=2 or 1=1"), 1);
        due(11, "and and", test("1=1 and 1=1 and 1=2"), 0);
        due(11, "and or and", test("1=2 and 1=1 or 1=1 and 1=1"), 1);
        due(11, "or and or", test("1=2 or 1=1 and 1=2 or 1=2"), 0);
        due(11, "sums in tests", test("2*3+1=14/2"), 1);
        due(11, "sums in tests", test("[1+1]*3>2+3"), 1);
        due(11, "((1=1))", test("((1=1) and not (1=2))"), 1);
    }

    private static void brokenOnes() {
        due(11, "1,000,000,000 is not BROKEN", sum("[1000*1000*1000]/1000/1000/100"), 10);
        due(11, "beyond is BROKEN", sum("[1000*1000*1000+1]/1000/1000/100"), 1);
        due(11, "beyond the other way", sum("[0-1000*1000*1000]/1000/1000/100+17"), 7);
        due(11, "beyond the other way is BROKEN", sum("[0-1000*1000*1000-1]/1000/1000/100+17"), 1);
        due(11, "far beyond", sum("1000*1000*1000*1000*1000*1000*1000*0"), 1);
        due(11, "1/0", sum("1/0"), 1);
        due(11, "1%0", sum("1%0"), 1);
        due(11, "0*[1/0]", sum("0*[1/0]"), 1);
        due(11, "0/5", sum("0/5"), 0);
        due(11, "BROKEN is not so", test("1/0=1"), 0);
        due(11, "not BROKEN is BROKEN", test("not 1/0=1"), 0);
        due(11, "so or BROKEN", test("1=1 or 1/0=1"), 1);
        due(11, "BROKEN or so", test("1/0=1 or 1=1"), 0);
        due(11, "not so and BROKEN", test("not (1=2 and 1/0=1)"), 1);
        due(11, "so and BROKEN", test("not (1=1 and 1/0=1)"), 0);
        due(11, "BROKEN and not so", test("not (1/0=1 and 1=2)"), 0);
        due(11, "not so or BROKEN", test("1=2 or 1/0=1"), 0);
        due(11, "so or so and BROKEN", test("1=1 or 1=1 and 1/0=1"), 1);
        due(11, "not so and BROKEN or so", test("1=2 and 1/0=1 or 1=1"), 1);
        due(11, "(so or BROKEN) and so", test("(1=1 or 1%0=1) and 1=1"), 1);
    }

    private static void lastThatHolds() {
        due(11, "the last that HOLDS", sum("5;burns 6;burns 7"), 7);
        due(11, "one whose if is not so", sum("5;burns 6;burns 7 if 1=2"), 6);
        due(11, "one whose if is BROKEN", sum("5;burns 6;burns 7 if 1/0=1"), 6);
        due(11, "one whose SUM is BROKEN", sum("5;burns 6;burns 7/0"), 6);
        due(11, "one whose SUM is BROKEN and whose if is not so", sum("5;burns 7/0 if 1=2"), 5);
        due(11, "none that HOLDS", sum("5 if 1=2"), 1);
        due(11, "others between", sum("5;flares 7;bars;fines 8"), 5);
        SmokeTune x = new SmokeTune();
        x.house(0, 0, 5, 0, 0);
        law(x, "bars;bars if 1=2");
        x.force(0);
        due(11, "BARRED, if one \"bars\" HOLDS", x.of(0, 10), 1);
        law(x, "bars if 1/0=1");
        x.force(1);
        due(11, "not BARRED by a BROKEN one", x.of(0, 10), 0);
    }

    private static void wordsOfLaws() {
        due(11, "house", sum("house*10"), 10);
        due(11, "note", sum("note"), 3);
        due(11, "street", sum("street*5"), 10);
        due(11, "fire", sum("fire"), 4);
        due(11, "coal", sum("coal"), 9);
        due(11, "other", sum("10+other"), 9);
        SmokeTune x = new SmokeTune();
        x.house(0, 0, 5, 0, 0);
        law(x, "burns hour;flares day;bars if mood=9");
        x.force(0);
        x.terms(0, 13);
        x.terms(1, 17);
        due(11, "hour", x.of(0, 8), 13);
        due(11, "day", x.of(0, 9), 17);
        due(11, "mood", x.of(0, 10), 0);
        x.terms(5, 9);
        due(11, "mood 9", x.of(0, 10), 1);
    }

    private static void orderFaults() {
        fault(false, "burns 1", 0);
        fault(false, "stoke", 5);
        fault(false, "stoke ;", 6);
        fault(false, "stoke 1 by 2", 8);
        fault(false, "damp 1", 6);
        fault(false, "damp 1 2", 7);
        fault(false, "damp 1 by", 9);
        fault(false, "damp by 1", 5);
        fault(false, "buy 1 by 1 by 1", 11);
        fault(false, "pass 1", 5);
        fault(false, "pass times", 10);
        fault(false, "pass times 0", 11);
        fault(false, "pass times 21", 11);
        fault(false, "pass times 1+1", 12);
        fault(false, "pass times [1]", 11);
        fault(false, "pass times hour", 11);
        fault(false, "pass if 1=1 times 2", 12);
        fault(false, "pass times 2 times 2", 13);
        fault(false, "stoke house", 6);
        fault(false, "stoke other", 6);
        fault(false, "stoke fire", 10);
        fault(false, "stoke fire 8", 11);
        fault(false, "stoke coal 8", 11);
        fault(false, "stoke sounds 7", 13);
        fault(false, "stoke fire [1]", 11);
        fault(false, "stoke fire hour", 11);
        fault(false, "stoke hour 1", 11);
        fault(false, "pass if sounds 6=0 and fire 7=0-1 and coal 7<0 or x", 50);
        fault(false, "stoke mood", 6);
        fault(false, "", 0);
        fault(false, "  ", 2);
        due(12, "orders() with H 07", orders(new SmokeTune(), "pass if fire 07=0-1"), 1);
    }

    private static void ordersRun() {
        SmokeTune x = new SmokeTune();
        x.house(0, 0, 30, 0, 0);
        x.house(1, 0, 30, 1, 1);
        due(12, "stoke 0 times 3", orders(x, "stoke 0 times 3"), 3);
        due(12, "FIRE", x.of(0, 5), 12);
        due(12, "COAL", x.of(0, 2), 27);
        due(12, "stoke 1;damp 0 by 5;buy 1 by 7;pass times 2", orders(x, "stoke 1;damp 0 by 5;buy 1 by 7;pass times 2"), 5);
        due(12, "FIRE 0", x.of(0, 5), 5);
        due(12, "FIRE 1", x.of(1, 5), 2);
        due(12, "COAL 1", x.of(1, 2), 36);
        due(12, "FINES", x.count(12), 2);
        due(12, "HOUR", x.count(13), 2);
        due(12, "the TAPE is empty then", x.count(5), 0);
        due(12, "times 1, times 20", orders(x, "buy 0 by 1 times 20;pass times 1"), 21);
        due(12, "none run", orders(x, "stoke 0 if 1=2"), 0);
        due(12, "status() of none run", x.status(), 0);
        due(12, "each time its if is asked", orders(x, "stoke 1 times 20 if fire 1<10"), 3);
        due(12, "FIRE 1 of 1, 5, 9, 13", x.of(1, 5), 13);
        due(12, "SUMS are asked each time", orders(x, "buy 0 by done+1 times 3"), 3);
        due(12, "COAL 0", x.of(0, 2), 27 + 20 + 1 + 2 + 3);
        due(12, "a HOUSE by a SUM", orders(x, "damp 3-2 by 2*3"), 1);
        due(12, "FIRE 1", x.of(1, 5), 7);
    }

    /** Coal that is bought by a sum in orders, of a house 1 with coal 30, fire 4. */
    private static int bought(String sum) {
        SmokeTune x = new SmokeTune();
        x.house(0, 0, 30, 0, 0);
        x.house(1, 0, 31, 1, 1);
        x.house(1, 1, 31, 2, 1);
        x.stoke(1);
        x.stoke(2);
        x.terms(0, 5);
        x.terms(1, 6);
        x.score(5, 3);
        x.score(6, 2);
        int answer = orders(x, sum);
        return answer < 0 ? answer : x.of(0, 2) - 30;
    }

    private static void wordsOfOrders() {
        due(12, "hour", bought("buy 0 by hour"), 5);
        due(12, "day", bought("buy 0 by day"), 6);
        due(12, "fines", bought("stoke 0;pass;buy 0 by fines"), 1 - 1);
        due(12, "fines twice", bought("stoke 0;pass times 2;buy 0 by 10*fines"), 20 - 1);
        due(12, "done", bought("damp 0 by 1;damp 0 by 1 if 1=2;damp 0 by 1;buy 0 by done"), 2);
        due(12, "met, none yet", bought("buy 0 by met+5"), 4);
        due(12, "met, not", bought("pass;buy 0 by met+5"), 5);
        due(12, "met", bought("pass times 2;buy 0 by met+5"), 6);
        SmokeTune x = new SmokeTune();
        x.house(0, 0, 9, 0, 0);
        due(12, "met of another TEXT", orders(x, "pass"), 1);
        due(12, "met of this TEXT alone", orders(x, "buy 0 by 1 if met=0-1"), 1);
        due(12, "done of this TEXT alone", orders(x, "buy 0 by 1 if done=0"), 1);
        due(12, "met of the latest, not of one ahead", bought("pass times 2 if done<2;damp 1 by 20;buy 0 by met+5"), 6);
        due(12, "fire 1", bought("buy 0 by fire 1"), 4);
        due(12, "fire 7: no such", bought("buy 0 by fire 7+3"), 2);
        due(12, "coal 1", bought("buy 0 by coal 1"), 30);
        due(12, "coal 3: no such", bought("buy 0 by coal 3+3"), 2);
        due(12, "sounds 1", bought("buy 0 by sounds 1"), 2);
        due(12, "sounds 1 and 0", bought("buy 0 by sounds 0+7"), 7);
        due(12, "sounds 0 then", bought("stoke 0;buy 0 by sounds 0+7"), 8 - 1);
        due(12, "sounds asked anew", bought("stoke 0;damp 1 by 4;pass;buy 0 by 10*sounds 0+sounds 1"), 11 - 1);
        due(12, "sounds of all", bought("buy 0 by sounds 0+sounds 1+sounds 2+sounds 3+sounds 4+sounds 5+sounds 6"), 2);
        due(12, "fire of 0", bought("stoke 0 times 2;buy 0 by fire 0"), 8 - 2);
        due(12, "coal of 0", bought("stoke 0 times 2;buy 0 by coal 0"), 28 - 2);
    }

    private static void ordersStopped() {
        SmokeTune x = new SmokeTune();
        x.house(0, 0, 2, 0, 0);
        x.house(1, 0, 9, 1, 1);
        x.stoke(1);
        int kept = x.count(4);
        due(12, "stoke 0 times 3 without COAL", orders(x, "damp 1 by 1;pass;stoke 0 times 3"), -3);
        due(12, "status()", x.status(), -3);
        due(14, "stopped()", x.stopped(), 2);
        due(13, "fault() of a TEXT that was read", x.fault(), -1);
        due(12, "COAL as it was", x.of(0, 2), 2);
        due(12, "FIRE as it was", x.of(1, 5), 4);
        due(12, "WARMTH as it was", x.of(1, 6), 0);
        due(12, "HOUR as it was", x.count(13), 0);
        due(12, "what can be undone as it was", x.count(4), kept);
        due(12, "undo()", x.undo(), 0);
        due(12, "FIRE undone", x.of(1, 5), 0);
        String[] bad = {"stoke 2", "stoke 0-1", "stoke 8", "damp 0 by 0", "damp 0 by 21", "damp 2 by 1", "buy 0 by 1000", "buy 0 by 0-1",
            "stoke 1/0", "damp 0 by 1/0", "damp 1%0 by 1", "buy 0 by 1000*1000*1000*2", "buy 1000*1000*5 by 1"};
        for (String text : bad) {
            due(12, "orders() of 'buy 0 by 1;" + text + "'", orders(x, "buy 0 by 1;" + text), -3);
            due(14, "stopped()", x.stopped(), 1);
            due(12, "COAL as it was", x.of(0, 2), 2);
        }
        due(12, "the if is asked ahead", orders(x, "stoke 1/0 if 1=2;stoke 9 if 1/0=1"), 0);
        due(14, "stopped() of ones that could be", x.stopped(), -1);
        orders(x, "stoke 7");
        due(14, "stopped()", x.stopped(), 0);
        due(12, "orders()", orders(x, "stoke"), -6);
        due(14, "stopped() of ones that can't be read", x.stopped(), -1);
        x.terms(1, 999);
        x.terms(0, 22);
        due(12, "pass times 2 at the end of days", orders(x, "pass times 2"), -3);
        due(14, "stopped()", x.stopped(), 0);
        due(12, "HOUR as it was", x.count(13), 22);
        due(12, "pass at the end of days", orders(x, "pass times 2 if hour<23"), 1);
        for (int i = 0; i < 20; i++) {
            x.buy(1, 1);
        }
        due(12, "orders() that can't be behind 16 kept", orders(x, "buy 1 by 1 times 18;stoke 5"), -3);
        due(12, "count(4)", x.count(4), 16);
        for (int i = 0; i < 16; i++) {
            due(12, "undo()", x.undo(), 2);
        }
        due(12, "COAL of 20 bought and 16 undone", x.of(1, 2), 9 + 4);
    }

    private static void ordersWithIf() {
        SmokeTune x = new SmokeTune();
        x.house(0, 0, 9, 0, 0);
        due(12, "BROKEN if: not run", orders(x, "stoke 0 if 1/0=0;stoke 0 if 1%0=0 or 1=1;stoke 0 if 1=1 or 1/0=0"), 1);
        due(12, "times with if", orders(x, "pass times 5 if fire 0>2"), 2);
        due(12, "laws in FORCE bind orders", law(x, "bars if fire<3"), 0);
        x.force(0);
        due(12, "stoke 0 BARRED", orders(x, "stoke 0"), -3);
        due(12, "orders() of 12 CLAUSES", orders(x, "buy 0 by 1" + many(";buy 0 by 1", 11)), 12);
        due(12, "orders() of 240", orders(x, "pass times 20" + many(";pass times 20", 11)), 240);
        due(12, "HOUR", x.count(13), 2);
        due(12, "DAY", x.count(14), 10);
    }
}
