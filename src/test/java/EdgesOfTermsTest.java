import java.io.IOException;
import java.nio.file.Files;
import java.nio.file.Path;
import java.nio.file.Paths;

/** The edges that 'Terms' of the document names, each under the words that name it: the last that can be, the first that can't. */
public final class EdgesOfTermsTest {
    private static final Path DOCUMENT = Paths.get("../shared/DOC.md");
    private static final int MIN = Integer.MIN_VALUE;
    private static final int MAX = Integer.MAX_VALUE;
    private static String document = "";
    private static String words = "";
    private static int wrong = 0;

    public static void main(String[] args) throws IOException {
        document = Files.exists(DOCUMENT) ? Files.readString(DOCUMENT).replaceAll("\\s+", " ") : "";
        housesAndTheirNumbers();
        firesAndWarmths();
        whatSounds();
        theScoreAndHeard();
        finesAtTheirMost();
        theTerms();
        theOrderOfRefusals();
        theTape();
        tokens();
        clausesPartsBrackets();
        numbersToAThousand();
        faults();
        beyondAThousandMillion();
        dividedByNothing();
        onlyIfItCanMatter();
        lawsAtMost();
        howLawsAreAsked();
        nearestOfLaws();
        discordsAround();
        numbersInOrders();
        wordsOfOrders();
        ordersAtTheirEdges();
        toStoke();
        toDamp();
        toBuy();
        anHourPasses();
        leastCoal();
        leastCoalByHours();
        ringsOfDinners();
        tuningAround();
        onTheHill();
        theWind();
        compared();
        draws();
        daysThatEnd();
        rows();
        images();
        System.out.println(wrong == 0 ? "EdgesOfTermsTest: all answers are as due" : "EdgesOfTermsTest: " + wrong + " wrong");
        if (wrong != 0) {
            System.exit(1);
        }
    }

    /** The words of the document that the next answers are due by. */
    private static void by(String told) {
        words = told;
        if (!document.isEmpty() && !document.contains(told)) {
            wrong++;
            System.out.println("the document does not say '" + told + "'");
        }
    }

    private static void due(String call, long got, long want) {
        if (got != want) {
            wrong++;
            System.out.println("'" + words + "': " + call + " answered " + got + ", due is " + want);
        }
    }

    private static void put(SmokeTune x, String text) {
        x.end(0);
        for (int i = 0; i < text.length(); i += 20) {
            int[] five = new int[5];
            for (int k = 0; k < 20; k++) {
                five[k / 4] = five[k / 4] << 8 | (i + k < text.length() ? text.charAt(i + k) : 0);
            }
            x.feed(five[0], five[1], five[2], five[3], five[4]);
        }
        x.end(text.length());
    }

    private static int law(SmokeTune x, String text) {
        put(x, text);
        int law = x.law();
        x.force(law);
        return law;
    }

    private static int orders(SmokeTune x, String text) {
        put(x, text);
        return x.orders();
    }

    private static String many(String text, int times) {
        return text.repeat(times);
    }

    /** Houses with notes 0, 1 .. around, all in street 0, with coal 999. */
    private static SmokeTune town(int houses) {
        SmokeTune x = new SmokeTune();
        for (int h = 0; h < houses; h++) {
            x.house(h % 7, 0, 999, h, h);
        }
        return x;
    }

    /** The house has that fire then, whatever it had. */
    private static void kindle(SmokeTune x, int house, int fire) {
        for (int i = 0; i < 5; i++) {
            x.stoke(house);
        }
        if (fire < 20) {
            x.damp(house, 20 - fire);
        }
    }

    private static void housesAndTheirNumbers() {
        by("HOUSES 0 .. 7 (8 at most)");
        SmokeTune x = new SmokeTune();
        for (int h = 0; h < 8; h++) {
            due("of(h, 0) ahead of house " + h, x.of(h, 0), -1);
            due("house " + h, x.house(h % 7, h % 4, h, h, 7 - h), h);
            due("count(0)", x.count(0), h + 1);
            due("of(h, 0)", x.of(h, 0), h % 7);
        }
        due("of(-1, 0)", x.of(-1, 0), -1);
        due("of(8, 0)", x.of(8, 0), -1);
        by("a DINNER 0 .. 7 (unlike in all HOUSES)");
        for (int d = 0; d < 8; d++) {
            due("a ninth house with DINNER " + d, x.house(0, 0, 0, d, 0), -3);
        }
        due("count(0)", x.count(0), 8);
        due("count(9): none by -5, as each DINNER is another one's", x.count(9), 0);
        String[] told = {"a NOTE 0 .. 6", "a STREET 0 .. 3", "COAL 0 .. 999", "a DINNER 0 .. 7", "WANTED 0 .. 7"};
        int[] most = {6, 3, 999, 7, 7};
        for (int i = 0; i < 5; i++) {
            by(told[i]);
            for (int value : new int[] {-1, most[i] + 1, MIN, MAX, -most[i]}) {
                SmokeTune y = new SmokeTune();
                due("house() with " + value, houseWith(y, i, value), -1);
                due("count(0)", y.count(0), 0);
            }
            for (int value : new int[] {0, 1, most[i] - 1, most[i]}) {
                SmokeTune y = new SmokeTune();
                due("house() with " + value, houseWith(y, i, value), 0);
                due("of(0, " + i + ")", y.of(0, i), value);
                due("status()", y.status(), 0);
            }
        }
    }

    private static int houseWith(SmokeTune x, int which, int value) {
        int[] a = {3, 2, 5, 4, 6};
        a[which] = value;
        return x.house(a[0], a[1], a[2], a[3], a[4]);
    }

    private static void firesAndWarmths() {
        by("FIRE 0 .. 20 (0 at first)");
        SmokeTune x = town(2);
        due("FIRE at first", x.of(0, 5), 0);
        for (int fire = 15; fire <= 20; fire++) {
            kindle(x, 0, fire);
            due("stoke(0) of FIRE " + fire, x.stoke(0), Math.min(20, fire + 4));
        }
        for (int fire = 0; fire <= 3; fire++) {
            kindle(x, 0, fire);
            due("damp(0, 2) of FIRE " + fire, x.damp(0, 2), Math.max(0, fire - 2));
        }
        due("the other one's FIRE", x.of(1, 5), 0);
        by("WARMTH 0 .. 9,999 (0 at first)");
        due("WARMTH at first", x.of(0, 6), 0);
        by("all WARMTHS are more by their FIRES (9,999 at most)");
        kindle(x, 0, 20);
        law(x, "burns 0");
        due("480 HOURS", orders(x, "pass times 20" + many(";pass times 20", 11)) + orders(x, "pass times 20" + many(";pass times 20", 11)), 480);
        due("19 HOURS", orders(x, "pass times 19"), 19);
        due("WARMTH of 499 HOURS with FIRE 20", x.of(0, 6), 9_980);
        x.pass();
        due("9,980 and 20", x.of(0, 6), 9_999);
        x.undo();
        x.damp(0, 1);
        x.pass();
        due("9,980 and 19", x.of(0, 6), 9_999);
        x.pass();
        due("9,999 and 19", x.of(0, 6), 9_999);
        x.undo();
        x.undo();
        x.damp(0, 1);
        x.pass();
        due("9,980 and 18", x.of(0, 6), 9_998);
        x.damp(0, 17);
        x.pass();
        due("9,998 and 1", x.of(0, 6), 9_999);
        x.damp(0, 1);
        x.pass();
        due("9,999 and 0", x.of(0, 6), 9_999);
        due("the WARMTH of one without FIRE", x.of(1, 6), 0);
    }

    private static void whatSounds() {
        by("A HOUSE SOUNDS, if its FIRE is LOW to HIGH");
        int[][] terms = {{3, 12}, {1, 1}, {20, 20}, {1, 20}, {4, 4}, {5, 4}, {20, 1}, {2, 19}};
        for (int[] t : terms) {
            SmokeTune x = town(1);
            x.terms(2, t[0]);
            x.terms(3, t[1]);
            kindle(x, 0, 20);
            for (int fire = 20; fire >= 0; fire--) {
                int sounds = fire >= t[0] && fire <= t[1] ? 1 : 0;
                String told = " of FIRE " + fire + ", LOW " + t[0] + ", HIGH " + t[1];
                due("of(0, 7)" + told, x.of(0, 7), sounds);
                due("count(1)" + told, x.count(1), sounds);
                due("sounds(0)" + told, x.sounds(0), sounds);
                due("chance(1)" + told, x.chance(1), sounds * 700_000_000_000L);
                x.damp(0, 1);
            }
        }
        SmokeTune x = new SmokeTune();
        x.house(0, 0, 9, 0, 0);
        x.terms(2, 1);
        due("FIRE 0 is below each LOW", x.of(0, 7), 0);
    }

    private static void theScoreAndHeard() {
        by("for each HOUR 0 .. 23 a CHORD: NOTES as bits (none at first)");
        SmokeTune x = new SmokeTune();
        for (int hour = 0; hour < 24; hour++) {
            due("chord(" + hour + ") at first", x.chord(hour), 0);
        }
        for (int hour : new int[] {-1, 24, MIN, MAX}) {
            due("chord(" + hour + ")", x.chord(hour), -1);
            due("score(" + hour + ", 1)", x.score(hour, 1), -1);
        }
        for (int hour : new int[] {0, 23}) {
            due("score(" + hour + ", 127)", x.score(hour, 127), 0);
            due("score(" + hour + ", 128)", x.score(hour, 128), -1);
            due("score(" + hour + ", -1)", x.score(hour, -1), -1);
            due("chord(" + hour + ")", x.chord(hour), 127);
            due("score(" + hour + ", 0)", x.score(hour, 0), 127);
            due("chord(" + hour + ")", x.chord(hour), 0);
        }
        by("HEARD, 6 at most: NOTES as bits that were heard at once");
        for (int notes : new int[] {-1, 128, MIN, MAX}) {
            due("hear(" + notes + ")", x.hear(notes), -1);
        }
        int[] heard = {0, 1, 64, 126, 127, 127};
        for (int i = 0; i < 6; i++) {
            due("hear(" + heard[i] + ")", x.hear(heard[i]), i + 1);
        }
        due("a seventh", x.hear(0), -5);
        due("count(2)", x.count(2), 6);
    }

    private static void finesAtTheirMost() {
        by("FINES 0 .. 99,999 (0 at first)");
        SmokeTune x = town(2);
        due("count(12)", x.count(12), 0);
        x.stoke(0);
        x.stoke(1);
        by("FINES are more by all discords together (99,999 at most)");
        law(x, "burns 0;fines 999");
        due("100 HOURS", orders(x, "pass times 20" + many(";pass times 20", 4)), 100);
        due("FINES of 100 HOURS", x.count(12), 99_900);
        law(x, "burns 0;fines 98+mood");
        x.pass();
        due("99,900 and 98", x.count(12), 99_998);
        law(x, "burns 0");
        x.pass();
        due("99,998 and 1", x.count(12), 99_999);
        x.pass();
        due("99,999 and 1", x.count(12), 99_999);
        due("discord() is as it is", x.discord(), 1);
        x.undo();
        x.undo();
        x.undo();
        due("FINES undone", x.count(12), 99_900);
        law(x, "burns 0;fines 99");
        x.pass();
        due("99,900 and 99", x.count(12), 99_999);
        x.undo();
        law(x, "burns 0;fines 100");
        x.pass();
        due("99,900 and 100", x.count(12), 99_999);
        x.days(0, 3);
        due("FINES that came on paper, at their most", x.drawn(0, 2), 0);
        x.undo();
        x.days(0, 1);
        due("FINES that came on paper up to 99,999", x.drawn(0, 2), 99);
        due("FINES are as they were", x.count(12), 99_900);
    }

    private static void theTerms() {
        String[] told = {"0 HOUR 0 .. 23 (0 at first)", "1 DAY 0 .. 999 (0)", "2 LOW 1 .. 20 (3)", "3 HIGH 1 .. 20 (12)", "4 WIND 0 .. 10 (3)",
            "5 MOOD 0 .. 9 (0)"};
        int[] first = {0, 0, 3, 12, 3, 0};
        int[] least = {0, 0, 1, 1, 0, 0};
        int[] most = {23, 999, 20, 20, 10, 9};
        for (int i = 0; i < 6; i++) {
            by(told[i]);
            SmokeTune x = new SmokeTune();
            due("count(" + (13 + i) + ") at first", x.count(13 + i), first[i]);
            for (int value : new int[] {least[i] - 1, most[i] + 1, MIN, MAX}) {
                due("terms(" + i + ", " + value + ")", x.terms(i, value), -1);
                due("status()", x.status(), -1);
                due("count(" + (13 + i) + ")", x.count(13 + i), first[i]);
            }
            int before = first[i];
            for (int value = least[i]; value <= most[i]; value += i == 1 ? 37 : 1) {
                due("terms(" + i + ", " + value + ")", x.terms(i, value), before);
                before = value;
            }
            due("status()", x.status(), 0);
            due("count(" + (13 + i) + ")", x.count(13 + i), most[i]);
            for (int k = 0; k < 6; k++) {
                due("count(" + (13 + k) + ") behind terms(" + i + ")", x.count(13 + k), k == i ? most[k] : first[k]);
            }
        }
        by("TERMS: 0 HOUR");
        SmokeTune x = new SmokeTune();
        for (int what : new int[] {-1, 6, MIN, MAX}) {
            due("terms(" + what + ", 1)", x.terms(what, 1), -1);
        }
    }

    private static void theOrderOfRefusals() {
        by("The first of these in that order.");
        SmokeTune x = town(8);
        due("house: -1 ahead of -3", x.house(7, 0, 0, 0, 0), -1);
        due("house: -1 ahead of -3", x.house(0, 0, 0, 0, 8), -1);
        due("house: -3 ahead of -5", x.house(0, 0, 0, 0, 0), -3);
        due("damp: -1 ahead of -2", x.damp(8, 0), -1);
        due("damp: -1 ahead of -2", x.damp(-1, 21), -1);
        due("damp: -2", x.damp(8, 20), -2);
        due("buy: -1 ahead of -2", x.buy(8, 0), -1);
        due("buy: -1 ahead of -2", x.buy(-1, 1000), -1);
        due("buy: -2", x.buy(8, 999), -2);
        law(x, "bars");
        due("stoke: -2 ahead of -3", x.stoke(8), -2);
        due("stoke: -3", x.stoke(7), -3);
        due("back: -1 ahead of -2", x.back(2), -1);
        due("back: -2", x.back(1), -2);
        for (int i = 0; i < 6; i++) {
            x.hear(i);
        }
        due("hear: -1 ahead of -5", x.hear(128), -1);
        due("hear: -5", x.hear(127), -5);
        for (int i = 1; i < 6; i++) {
            law(x, "bars");
        }
        put(x, "?");
        due("law: -5 ahead of -6", x.law(), -5);
        due("law: -5 ahead of -6 on an empty TAPE", x.law(), -5);
        due("score: -1", x.score(24, 128), -1);
        int[] counts = {9, 4, 2, 3, 0};
        for (int i = 0; i < 5; i++) {
            due("count(" + (6 + i) + ")", x.count(6 + i), counts[i]);
        }
    }

    private static void theTape() {
        by("TEXTS are on a TAPE of at most 400 bytes");
        SmokeTune x = town(1);
        for (int i = 1; i <= 20; i++) {
            due("feed", x.feed(0x20202020, 0x20202020, 0x20202020, 0x20202020, 0x20202020), 20 * i);
        }
        due("feed beyond 400", x.feed(0, 0, 0, 0, 0), -1);
        due("count(5)", x.count(5), 400);
        due("law() of 400 blanks", x.law(), -6);
        due("fault()", x.fault(), 400);
        due("law() of 400 bytes, the last one its number", law(x, "burns" + many(" ", 394) + "9"), 0);
        due("of(0, 8)", x.of(0, 8), 9);
        due("law() of 400 bytes, a word to the end", law(x, many(" ", 396) + "bars"), 1);
        due("of(0, 10)", x.of(0, 10), 1);
        put(x, many(" ", 400));
        x.end(381);
        due("feed beyond 400 by one", x.feed(1, 1, 1, 1, 1), -1);
        due("count(5)", x.count(5), 381);
        x.end(380);
        due("feed to 400", x.feed(1, 1, 1, 1, 1), 400);
    }

    private static void fault(boolean asLaw, String text, int place) {
        SmokeTune x = new SmokeTune();
        put(x, text);
        int length = x.count(5);
        int answer = asLaw ? x.law() : x.orders();
        String told = (asLaw ? "law() of '" : "orders() of '") + text + "'";
        due("TAPE of '" + text + "'", length, text.length());
        due(told + " can be", answer == -6 ? 0 : 1, place < 0 ? 1 : 0);
        due(told + ": fault()", x.fault(), place);
        due(told + ": the TAPE", x.count(5), 0);
    }

    private static void tokens() {
        by("TOKENS: longest rows of letters a .. z, of digits, single other bytes, any blanks (32) between");
        for (int b = 0; b < 256; b++) {
            String sign = String.valueOf((char) b);
            boolean letter = b >= 'a' && b <= 'z';
            boolean digit = b >= '0' && b <= '9';
            boolean sums = "+-*/%".contains(sign);
            boolean tests = "<>=".contains(sign);
            fault(true, "burns 1" + sign, digit || b == ' ' ? -1 : sums || b == ';' ? 8 : 7);
            fault(true, sign + "bars", b == ' ' ? -1 : 0);
            fault(true, "bars" + sign, b == ' ' ? -1 : letter ? 0 : b == ';' ? 5 : 4);
            fault(true, "bars if 1" + sign + "1", tests ? -1 : sums || digit ? 11 : b == ' ' ? 10 : 9);
            fault(true, "bars if 1" + sign + "house", tests ? -1 : sums ? 15 : digit || b == ' ' ? 10 : 9);
            fault(false, "pass" + sign + "if 1=1", b == ' ' ? -1 : letter ? 0 : b == ';' ? 5 : 4);
            fault(false, "pass times 2" + sign, digit ? (b == '0' ? -1 : 11) : b == ' ' ? -1 : b == ';' ? 13 : 12);
        }
        fault(true, "bars;bars if house=1", -1);
        fault(true, "barsif house=1", 0);
        fault(true, "bars if house=1and note=1", -1);
        fault(true, "bars if 1=houseand note=1", 10);
        fault(true, "   bars   if   not   house   =   1   ", -1);
        fault(true, "burns 1 0", 8);
        fault(true, "burns 10", -1);
        fault(true, "b urns 10", 0);
    }

    private static void clausesPartsBrackets() {
        by("12 at most (FAULT at the 13th's first TOKEN)");
        fault(true, "bars" + many(";bars", 10), -1);
        fault(true, "bars" + many(";bars", 11), -1);
        fault(true, "bars" + many(";bars", 12), 60);
        fault(true, "bars" + many(";bars", 11) + ";   bars", 63);
        fault(true, "bars" + many(";bars", 11) + ";", 60);
        fault(true, "bars" + many(";bars", 11) + " ;  ", 63);
        fault(true, "bars" + many(";bars", 11) + ";?", 60);
        fault(true, "bars" + many(";bars", 13), 60);
        fault(false, "pass" + many(";pass", 11), -1);
        fault(false, "pass" + many(";pass", 12), 60);
        by("50 PARTS that are NUMBERS and words (FAULT at the 51st)");
        fault(true, "burns 1" + many("+1", 48), -1);
        fault(true, "burns 1" + many("+1", 49), -1);
        fault(true, "burns 1" + many("+1", 50), 106);
        fault(true, "burns 1" + many("+1", 51), 106);
        fault(true, "burns house" + many("+day", 49), -1);
        fault(true, "burns house" + many("+day", 50), 208);
        fault(true, "burns house" + many("+1", 49) + "-day", 110);
        fault(true, "bars if 1=1" + many(" or 1=1", 24), -1);
        fault(true, "bars if 1=1" + many(" or 1=1", 25), 183);
        fault(true, "bars if 1=1" + many(" or 1=1", 24) + ";burns 1", 186);
        fault(true, "burns 1" + many("+1", 23) + " if 1=1" + many("+1", 24), -1);
        fault(true, "burns 1" + many("+1", 23) + " if 1=1" + many("+1", 25), 109);
        fault(true, "burns 1" + many("+1", 49) + "+[1]", 107);
        fault(true, "burns 1" + many("+1", 49) + "+x", 106);
        fault(true, "burns 1" + many("+1", 49) + "+1001", 106);
        fault(true, "burns [1" + many("]+[1", 49) + "]", -1);
        fault(true, "burns 1;burns 1" + many("+1", 48), -1);
        fault(true, "burns 1;burns 1" + many("+1", 49), 112);
        fault(false, "damp 1 by 1" + many("+1", 48), -1);
        fault(false, "damp 1 by 1" + many("+1", 49), 108);
        by("8 brackets of both kinds within one another (FAULT at the 9th) at most");
        for (int round = 0; round <= 9; round++) {
            for (int square = 0; square + round <= 10; square++) {
                String text = "bars if " + many("(", round) + many("[", square) + "1" + many("]", square) + "=1" + many(")", round);
                fault(true, text, round + square > 8 ? 16 : -1);
                fault(false, "pass" + text.substring(4), round + square > 8 ? 16 : -1);
            }
        }
        fault(true, "burns " + many("[1]+", 20) + "1", -1);
        fault(true, "burns " + many("[", 8) + "1" + many("]", 8) + "+" + many("[", 8) + "1" + many("]", 8), -1);
        fault(true, "burns " + many("[", 8) + "1" + many("]", 8) + "+" + many("[", 9) + "1" + many("]", 9), 32);
        fault(true, "burns " + many("[", 8) + "1]+[1" + many("]", 8), -1);
        fault(true, "burns " + many("[", 8) + "1]+[[1" + many("]", 9), 18);
        fault(true, "bars if not (" + many("not (", 7) + "1=1" + many(")", 8), -1);
        fault(true, "bars if not (" + many("not (", 8) + "1=1" + many(")", 9), 52);
    }

    private static void numbersToAThousand() {
        by("NUMBER (to 1,000)");
        String[] can = {"0", "1", "999", "1000", "0000", "0001000"};
        String[] cannot = {"1001", "2000", "9999", "10000", "0001001", "2147483647", "2147483648", "4294967296", "4294967297", "18446744073709551616",
            many("9", 300)};
        for (String n : can) {
            fault(true, "burns " + n, -1);
            fault(true, "bars if 1<" + n, -1);
            fault(false, "pass if " + n + "=1", -1);
        }
        for (String n : cannot) {
            fault(true, "burns " + n, 6);
            fault(true, "bars if 1<" + n, 10);
            fault(false, "damp 1 by " + n, 10);
        }
        SmokeTune x = town(1);
        law(x, "burns 1000-990;flares 999-990");
        due("1000-990", x.of(0, 8), 10);
        due("999-990", x.of(0, 9), 9);
        law(x, "burns 0001000-00000990;flares 0");
        due("0001000-00000990", x.of(0, 8), 10);
        due("0", x.of(0, 9), 0);
    }

    private static void faults() {
        by("FAULT: the first TOKEN that can't go on there (the end's: the TEXT's length)");
        String[] laws = {"", "b", "burns", "burns ", "burns 5+", "burns 5+ ", "burns 5 i", "burns 5 if", "burns 5 if ", "burns 5 if fir", "burns 5 if fire",
            "burns 5 if fire ", "burns 5 if fire<", "burns 5 if fire<6;", "burns 5 if fire<6 and", "burns 5 if fire<6 not", "burns 5 if (fire<6",
            "burns 5 if [fire<6", "burns [5", "burns [5 ", "bars bars", "bars if fire<6 if"};
        int[] lawPlaces = {0, 0, 5, 6, 8, 9, 8, 10, 11, 11, 15, 16, 16, 18, 21, 18, 18, 16, 8, 9, 5, 15};
        for (int i = 0; i < laws.length; i++) {
            fault(true, laws[i], lawPlaces[i]);
        }
        String[] orders = {"", " ", "s", "stoke", "stoke ", "stoke 1 time", "stoke 1 times", "stoke 1 times ", "stoke 1 times 3 i", "damp 1", "damp 1 ",
            "damp 1 b", "damp 1 by", "damp 1 by 2 by 3", "buy", "buy 1 times 2", "pass;", "pass by 1", "pass if coal", "pass if coal 1", "pass if sounds 6"};
        int[] orderPlaces = {0, 1, 0, 5, 6, 8, 13, 14, 16, 6, 7, 7, 9, 12, 3, 6, 5, 5, 12, 14, 16};
        for (int i = 0; i < orders.length; i++) {
            fault(false, orders[i], orderPlaces[i]);
        }
        by("LAWS, 6 at most; one is in FORCE (NONE at first: no CLAUSE)");
        for (String word : "house note street fire coal hour day mood other".split(" ")) {
            fault(true, "burns " + word, -1);
            fault(false, "stoke " + word, "hour day".contains(word) ? -1 : "fire coal".contains(word) ? 10 : 6);
        }
        for (String word : "fines done met".split(" ")) {
            fault(true, "burns " + word, 6);
            fault(false, "stoke " + word, -1);
        }
    }

    /** 1 if the test is so, 0 if not so or broken; the last place tells which: with "not" ahead a broken one stays 0. */
    private static void test(String text, boolean so, boolean broken) {
        SmokeTune x = town(1);
        law(x, "bars if " + text);
        due("'" + text + "'", x.of(0, 10), so && !broken ? 1 : 0);
        law(x, "bars if not (" + text + ")");
        due("'not (" + text + ")'", x.of(0, 10), !so && !broken ? 1 : 0);
    }

    private static void equal(String sum, int number) {
        test(sum + "=" + (number < 0 ? "0-" + -number : "" + number), true, false);
    }

    private static void broken(String sum) {
        test(sum + "=0", false, true);
        test("0<" + sum, false, true);
        SmokeTune x = town(1);
        law(x, "burns 9;burns " + sum);
        due("burns " + sum, x.of(0, 8), 9);
        due("stoke " + sum, orders(x, "stoke " + sum), -3);
        due("buy 0 by " + sum, orders(x, "buy 0 by " + sum), -3);
    }

    private static void beyondAThousandMillion() {
        by("Beyond 1,000,000,000 either way");
        String most = "1000*1000*1000";
        test(most + "=" + most, true, false);
        test(most + ">" + most + "-1", true, false);
        test("0-" + most + "<0-" + most + "+1", true, false);
        broken(most + "+1");
        broken("1+" + most);
        broken("0-" + most + "-1");
        broken("0-1-" + most);
        broken("[" + most + "+1]-1");
        broken("[" + most + "+1]/1000");
        broken("[" + most + "+1]%2");
        broken("[" + most + "+1]*0");
        broken("0*[" + most + "+1]");
        broken(most + "*2");
        broken(most + "*[0-2]");
        broken(most + "*1000");
        broken(most + "*1000*1000*1000*1000*1000");
        broken(most + "*1000*0");
        broken("[" + most + "]*[" + most + "]");
        broken(most + "+" + most);
        broken("0-" + most + "-" + most);
        equal("[" + most + "]*1-" + most, 0);
        equal(most + "*[0-1]+" + most, 0);
        equal("[0-" + most + "]/[0-1]-" + most, 0);
        equal("[" + most + "-1+1]/1000/1000", 1000);
        equal("[0-" + most + "]/1000/1000", -1000);
        equal("[" + most + "]%7", 6);
        equal("999*1000*1000+1000*1000-" + most, 0);
        broken("999*1000*1000+1000*1000+1");
        SmokeTune x = town(1);
        due("a HOUSE by 1,000,000,000", orders(x, "stoke " + most), -3);
        law(x, "burns " + most + ";flares 0-" + most);
        due("burns 1,000,000,000", x.of(0, 8), 20);
        due("flares -1,000,000,000", x.of(0, 9), 0);
    }

    private static void dividedByNothing() {
        by("divided by 0 (/ cut towards 0, % what is left then)");
        broken("1/0");
        broken("0/0");
        broken("1%0");
        broken("0%0");
        broken("5/[3-3]");
        broken("5%[3-3]");
        broken("5+1/0");
        broken("1/0*0");
        broken("[1/0]-[1/0]");
        equal("0/5", 0);
        equal("0%5", 0);
        equal("7/1", 7);
        equal("7%1", 0);
        equal("7/7", 1);
        equal("6/7", 0);
        equal("7/2", 3);
        equal("[0-7]/2", -3);
        equal("7/[0-2]", -3);
        equal("[0-7]/[0-2]", 3);
        equal("[0-6]/7", 0);
        equal("7%2", 1);
        equal("[0-7]%2", -1);
        equal("7%[0-2]", 1);
        equal("[0-7]%[0-2]", -1);
        equal("[0-6]%7", -6);
    }

    private static void onlyIfItCanMatter() {
        by("(\"or\", \"and\" ask what stands behind only if it can still matter)");
        String no = "1=2";
        String yes = "1=1";
        String worse = "1/0=1";
        test(yes + " or " + worse, true, false);
        test(no + " or " + worse, false, true);
        test(worse + " or " + yes, false, true);
        test(worse + " or " + no, false, true);
        test(yes + " and " + worse, false, true);
        test(no + " and " + worse, false, false);
        test(worse + " and " + no, false, true);
        test(worse + " and " + yes, false, true);
        test(no + " and " + worse + " and " + worse, false, false);
        test(yes + " or " + worse + " or " + worse, true, false);
        test(no + " or " + yes + " or " + worse, true, false);
        test(yes + " and " + no + " and " + worse, false, false);
        test(no + " and " + worse + " or " + yes, true, false);
        test(no + " and " + worse + " or " + no, false, false);
        test(no + " and " + worse + " or " + worse, false, true);
        test(yes + " or " + yes + " and " + worse, true, false);
        test(no + " or " + yes + " and " + worse, false, true);
        test(no + " or " + no + " and " + worse, false, false);
        test("(" + yes + " or " + worse + ") and " + yes, true, false);
        test("(" + yes + " or " + worse + ") and " + worse, false, true);
        test("not (" + no + " and " + worse + ") or " + worse, true, false);
        test("not " + worse, false, true);
        test("not not " + worse + " or " + yes, false, true);
        test(worse.replace("=", "<") + " or " + yes, false, true);
    }

    private static void lawsAtMost() {
        by("LAWS, 6 at most; one is in FORCE (NONE at first: no CLAUSE)");
        SmokeTune x = town(1);
        due("count(11)", x.count(11), -1);
        due("count(3)", x.count(3), 0);
        for (int i = 0; i < 6; i++) {
            due("force(" + i + ") ahead of it", x.force(i), -2);
            put(x, "burns " + (10 + i));
            due("law " + i, x.law(), i);
            due("count(3)", x.count(3), i + 1);
        }
        due("count(11): none by itself", x.count(11), -1);
        put(x, "burns 1");
        due("a seventh", x.law(), -5);
        due("count(3)", x.count(3), 6);
        due("force(6)", x.force(6), -2);
        due("force(-2)", x.force(-2), -2);
        for (int i = 5; i >= 0; i--) {
            due("force(" + i + ")", x.force(i), i == 5 ? -1 : i + 1);
            due("of(0, 8) by LAW " + i, x.of(0, 8), 10 + i);
        }
        due("force(-1)", x.force(-1), 0);
        due("of(0, 8) by none", x.of(0, 8), 1);
    }

    private static void howLawsAreAsked() {
        by("are asked of a HOUSE (other -1;");
        SmokeTune x = town(8);
        law(x, "burns 11 if other=0-1;flares 12 if other=0-1;bars if other=0-1");
        due("of(7, 8)", x.of(7, 8), 11);
        due("of(7, 9)", x.of(7, 9), 12);
        due("of(7, 10)", x.of(7, 10), 1);
        law(x, "burns house+10;flares house+10;bars if house=7");
        for (int h = 0; h < 8; h++) {
            due("burns house+10 of " + h, x.of(h, 8), h + 10);
            due("flares house+10 of " + h, x.of(h, 9), h + 10);
            due("bars if house=7 of " + h, x.of(h, 10), h / 7);
        }
        by("hour, day, mood always");
        x.terms(0, 23);
        x.terms(1, 999);
        x.terms(5, 9);
        law(x, "burns hour-day/100-mood;flares hour-day%10-mood;bars if hour=23 and day=999 and mood=9;fines hour*10+day+mood-990");
        due("23-9-9", x.of(0, 8), 5);
        due("23-9-9", x.of(0, 9), 5);
        due("at the last HOUR", x.of(0, 10), 1);
        x.force(-1);
        x.stoke(0);
        x.stoke(1);
        x.force(2);
        due("230+999+9-990", x.discord(), 248);
        law(x, "flares 7 if hour=23 and day=999;bars if hour<23 or day<999 or day>999");
        due("stoke(2) at the last HOUR", x.stoke(2), 7);
        x.terms(0, 22);
        due("stoke(2) at 22", x.stoke(2), -3);
        x.terms(0, 23);
        x.terms(1, 998);
        due("stoke(2) at 23 of 998", x.stoke(2), -3);
        by("A CLAUSE HOLDS, if its \"if\" (if it has one) is so, and neither that nor its SUM is BROKEN");
        x = town(1);
        law(x, "burns 5;burns 6 if 1/0=0;burns 7 if 1=2;burns 8/0;burns 9/0 if 1=1");
        due("the last that HOLDS", x.of(0, 8), 5);
        law(x, "bars if 1/0=0;bars if 1=2");
        due("none HOLDS", x.of(0, 10), 0);
        law(x, "bars;bars if 1/0=0;bars if 1=2");
        due("the first one HOLDS", x.of(0, 10), 1);
    }

    private static void nearestOfLaws() {
        by("tells, 0 .. 20 (else the nearest), 1 without");
        SmokeTune x = town(2);
        x.stoke(0);
        x.stoke(1);
        x.image(0);
        String[] sums = {"0-1000*1000*1000", "0-1", "0", "1", "19", "20", "21", "1000", "1000*1000*1000"};
        int[] fire = {0, 0, 0, 1, 19, 20, 20, 20, 20};
        for (int i = 0; i < sums.length; i++) {
            x.back(0);
            law(x, "burns " + sums[i]);
            due("burns " + sums[i], x.of(0, 8), fire[i]);
            due("flares without", x.of(0, 9), 4);
            due("bars without", x.of(0, 10), 0);
            due("fines without", x.discord(), 1);
        }
        by("stoked it FLARES up by 0 .. 20, 4 without");
        for (int i = 0; i < sums.length; i++) {
            x.back(0);
            law(x, "flares " + sums[i]);
            due("flares " + sums[i], x.of(0, 9), fire[i]);
            due("burns without", x.of(0, 8), 1);
            due("stoke(0) by " + sums[i], x.stoke(0), Math.min(20, 4 + fire[i]));
        }
        by("a discord is FINED 0 .. 999, 1 without");
        String[] fines = {"0-1000*1000*1000", "0-1", "0", "1", "998", "999", "1000", "1000+1", "1000*1000*1000", "1/0"};
        int[] fined = {0, 0, 0, 1, 998, 999, 999, 999, 999, 1};
        for (int i = 0; i < fines.length; i++) {
            x.back(0);
            law(x, "fines " + fines[i]);
            due("fines " + fines[i], x.discord(), fined[i]);
            x.pass();
            due("FINES by " + fines[i], x.count(12), fined[i]);
        }
    }

    private static void discordsAround() {
        by("6 and 0 are beside each other, too");
        for (int low = 0; low < 7; low++) {
            for (int high = 0; high < 7; high++) {
                SmokeTune x = new SmokeTune();
                x.house(low, 3, 20, 0, 0);
                x.house(high, 3, 40, 1, 1);
                x.stoke(0);
                x.stoke(1);
                int way = Math.abs(low - high);
                boolean beside = way == 1 || way == 6;
                law(x, "fines 500+house*100+note*10+other");
                due("discord() of " + low + ", " + high, x.discord(), beside ? 500 + low * 10 + high : 0);
            }
        }
        by("of two HOUSES that SOUND in one STREET with NOTES beside each other");
        for (int a = 0; a < 4; a++) {
            for (int b = 0; b < 4; b++) {
                SmokeTune x = new SmokeTune();
                x.house(6, a, 20, 0, 0);
                x.house(0, b, 20, 1, 1);
                x.stoke(0);
                x.stoke(1);
                due("discord() in STREETS " + a + ", " + b, x.discord(), a == b ? 1 : 0);
            }
        }
        for (int fire = 0; fire <= 20; fire++) {
            SmokeTune x = town(2);
            kindle(x, 0, 12);
            kindle(x, 1, fire);
            due("discord() with FIRE " + fire, x.discord(), fire >= 3 && fire <= 12 ? 1 : 0);
        }
        SmokeTune x = town(8);
        for (int h = 0; h < 8; h++) {
            x.stoke(h);
        }
        // seven around, and the eighth with note 0 beside 6 and 1
        due("discord() of eight", x.discord(), 9);
        by("(house, note, fire, coal: of the lower one; other: the NOTE of the other one;");
        SmokeTune y = new SmokeTune();
        y.house(0, 1, 20, 0, 0);
        y.house(6, 1, 30, 1, 1);
        kindle(y, 0, 5);
        kindle(y, 1, 7);
        String[] told = {"house", "note", "fire", "coal", "other", "street"};
        int[] values = {0, 0, 5, 15, 6, 1};
        for (int i = 0; i < told.length; i++) {
            y.image(0);
            law(y, "fines " + told[i]);
            due("fines " + told[i], y.discord(), values[i]);
            y.back(0);
        }
    }

    private static void numbersInOrders() {
        by("TIMES: a NUMBER 1 .. 20");
        for (int times = 0; times <= 22; times++) {
            boolean can = times >= 1 && times <= 20;
            SmokeTune x = town(1);
            due("pass times " + times, orders(x, "pass times " + times), can ? times : -6);
            due("fault()", x.fault(), can ? -1 : 11);
            due("HOUR", x.count(13), can ? times : 0);
        }
        due("pass times 020", orders(town(1), "pass times 020"), 20);
        fault(false, "pass times 1000", 11);
        fault(false, "pass times 1001", 11);
        by("(H: a NUMBER 0 .. 7, N: 0 .. 6)");
        for (int n = 0; n <= 9; n++) {
            fault(false, "pass if fire " + n + "=1", n <= 7 ? -1 : 13);
            fault(false, "pass if coal " + n + "=1", n <= 7 ? -1 : 13);
            fault(false, "pass if sounds " + n + "=1", n <= 6 ? -1 : 15);
        }
        fault(false, "pass if fire 07=1", -1);
        fault(false, "pass if fire 008=1", 13);
        fault(false, "pass if fire -1=1", 13);
        fault(false, "pass if fire [1]=1", 13);
        fault(false, "pass if fire=1", 12);
        by("H, N, TIMES aside, NUMBERS and words count as PARTS");
        String fifty = "buy 0 by fire 0" + many("+sounds 6", 24) + "-coal 7" + many("+done", 21);
        due("49 PARTS", orders(town(1), fifty + "-met times 1"), 1);
        due("50 PARTS", orders(town(1), fifty + "-met+1 times 20"), 20);
        fault(false, fifty + "-met+1+1 times 20", (fifty + "-met+1+").length());
        fault(false, fifty + "-met+1;pass times 20 if fire 1=1", (fifty + "-met+1;pass times 20 if ").length());
        due("50 PARTS, then TIMES alone", orders(town(1), fifty + "-met+1;pass times 20"), 21);
    }

    private static void wordsOfOrders() {
        by("fire, coal: of a HOUSE (-1: no such)");
        for (int houses = 0; houses <= 8; houses++) {
            for (int h = 0; h < 8; h++) {
                SmokeTune x = town(houses);
                x.stoke(h);
                boolean there = h < houses;
                due("fire " + h + " of " + houses, orders(x, "pass if fire " + h + "=" + (there ? "4" : "0-1")), 1);
                x.undo();
                due("coal " + h + " of " + houses, orders(x, "pass if coal " + h + "=" + (there ? "998" : "0-1")), 1);
            }
        }
        by("Words: \"hour\" | \"day\" | \"fines\" | \"done\" | \"met\" | \"fire\" H | \"coal\" H | \"sounds\" N");
        SmokeTune z = town(2);
        z.stoke(0);
        z.stoke(1);
        z.terms(0, 22);
        z.terms(1, 998);
        due("hour, day, fines", orders(z, "pass if hour=22 and day=998 and fines=0;pass if hour=23 and day=998 and fines=1"), 2);
        due("hour, day, fines around", orders(z, "pass if hour=0 and day=999 and fines=2"), 1);
        by("sounds: how many HOUSES SOUND with that NOTE");
        SmokeTune w = town(1);
        due("sounds 0", orders(w, "pass if sounds 0=0;stoke 0;pass if sounds 0=1;pass if sounds 0=1;pass if sounds 0=0"), 5);
        SmokeTune x = new SmokeTune();
        for (int h = 0; h < 8; h++) {
            x.house(6, 0, 9, h, h);
            due("sounds 6 with " + h, orders(x, "pass if sounds 6=" + h), 1);
            due("sounds 5 with " + h, orders(x, "pass if sounds 5=0 and sounds 0=0"), 1);
            for (int k = 0; k <= h; k++) {
                kindle(x, k, 12);
                x.buy(k, 9);
            }
        }
        due("sounds 6 with 8", orders(x, "pass if sounds 6=8"), 1);
        by("done: how many were run in this TEXT");
        due("done", orders(x, "pass if done=0;pass if done=5;pass if done=1;pass times 20 if done<5;pass if done=5"), 6);
        due("done anew", orders(x, "pass if done=0"), 1);
        by("met: whether the CHORD of the latest HOUR that passed in it was (1, 0; -1: none)");
        SmokeTune y = town(1);
        y.score(1, 1);
        due("met", orders(y, "pass if met=0-1;buy 0 by 1 if met=1;pass;buy 0 by 1 if met=0;pass;buy 0 by 1 if met=1"), 6);
        due("met anew", orders(y, "pass if met=0-1"), 1);
        due("met is -1 behind others", orders(y, "buy 0 by 1;damp 0 by 1;stoke 0;pass if met=0-1"), 4);
    }

    /** What orders answer, of a town with two houses with fire 4; one that can't be is the second clause. */
    private static void order(String text, int answer) {
        SmokeTune x = town(2);
        x.stoke(0);
        x.stoke(1);
        int due = answer < 0 ? -3 : answer + 1;
        due("orders() of 'damp 1 by 1;" + text + "'", orders(x, "damp 1 by 1;" + text), due);
        due("stopped()", x.stopped(), answer < 0 ? 1 : -1);
        due("fault()", x.fault(), -1);
        due("count(4)", x.count(4), answer < 0 ? 2 : Math.min(16, 2 + due));
    }

    private static void ordersAtTheirEdges() {
        by("One that can't be (a BROKEN SUM, as stoke(), damp(), buy(), pass() are REFUSED) ends it");
        order("stoke 0-1", -1);
        order("stoke 0", 1);
        order("stoke 1", 1);
        order("stoke 2", -1);
        order("stoke 1000", -1);
        order("damp 0 by 0-1", -1);
        order("damp 0 by 0", -1);
        order("damp 0 by 1", 1);
        order("damp 0 by 20", 1);
        order("damp 0 by 21", -1);
        order("damp 2 by 1", -1);
        order("damp 0-1 by 1", -1);
        order("buy 0 by 0-1", -1);
        order("buy 0 by 0", -1);
        order("buy 0 by 1", 1);
        order("buy 1 by 999", 1);
        order("buy 1 by 1000", -1);
        order("buy 2 by 1", -1);
        order("damp 1/0 by 1", -1);
        order("damp 1 by 1/0", -1);
        order("stoke 0 times 20;stoke 0 if 1=2", 20);
        by("(not run, if it is not so or BROKEN), then its SUMS from the left");
        order("stoke 9 if 1=2", 0);
        order("stoke 9 if 1/0=1", 0);
        order("stoke 1/0 if 1=2", 0);
        order("damp 1/0 by 1/0 times 20 if 1=2", 0);
        order("stoke 9 times 20 if done>1", 0);
        order("damp 0 by 1 times 20 if fire 0>2", 2);
        by("ends it: all is as it was ahead of it.");
        SmokeTune y = town(1);
        y.stoke(0);
        due("damp, buy, stoke, pass, then one that can't be", orders(y, "damp 0 by 4;buy 0 by 1;stoke 0 times 2;pass times 2;stoke 1"), -3);
        due("FIRE", y.of(0, 5), 4);
        due("COAL", y.of(0, 2), 998);
        due("WARMTH", y.of(0, 6), 0);
        due("HOUR", y.count(13), 0);
        due("count(4)", y.count(4), 1);
        due("undo()", y.undo(), 0);
        by("Run CLAUSE by CLAUSE, each as often as TIMES tell (once without)");
        SmokeTune x = new SmokeTune();
        x.house(0, 0, 3, 0, 0);
        due("stoke 0 times 4 with COAL 3", orders(x, "stoke 0 times 4"), -3);
        due("COAL", x.of(0, 2), 3);
        due("stoke 0 times 3 with COAL 3", orders(x, "stoke 0 times 3"), 3);
        due("COAL", x.of(0, 2), 0);
        x.terms(1, 999);
        x.terms(0, 20);
        due("pass times 4 to the end", orders(x, "pass times 4"), -3);
        due("stopped()", x.stopped(), 0);
        due("pass times 3 to the end", orders(x, "pass times 3"), 3);
        due("HOUR", x.count(13), 23);
        due("240 at most", orders(town(1), "pass times 20" + many(";pass times 20", 11)), 240);
    }

    private static void toStoke() {
        by("To STOKE (COAL is 1 or more, not BARRED): COAL is one less, FIRE more by what it FLARES (20 at most)");
        SmokeTune x = new SmokeTune();
        x.house(0, 0, 0, 0, 0);
        due("stoke(0) with COAL 0", x.stoke(0), -3);
        x.buy(0, 1);
        due("stoke(0) with COAL 1", x.stoke(0), 4);
        due("COAL", x.of(0, 2), 0);
        due("stoke(0) with COAL 0", x.stoke(0), -3);
        due("FIRE", x.of(0, 5), 4);
        x.buy(0, 999);
        due("stoke(0) with COAL 999", x.stoke(0), 8);
        due("COAL", x.of(0, 2), 998);
        law(x, "bars if fire>11");
        due("stoke(0) with FIRE 8", x.stoke(0), 12);
        due("stoke(0) with FIRE 12", x.stoke(0), -3);
        due("COAL", x.of(0, 2), 997);
        x.damp(0, 1);
        due("stoke(0) with FIRE 11", x.stoke(0), 15);
        law(x, "flares 5");
        due("15 and 5", x.stoke(0), 20);
        due("20 and 5", x.stoke(0), 20);
        due("COAL is one less, too", x.of(0, 2), 994);
        x.damp(0, 4);
        due("16 and 5", x.stoke(0), 20);
        x.damp(0, 6);
        due("14 and 5", x.stoke(0), 19);
        due("stoke(-1)", x.stoke(-1), -2);
        due("stoke(1)", x.stoke(1), -2);
        due("stoke(MAX)", x.stoke(MAX), -2);
        due("stoke(MIN)", x.stoke(MIN), -2);
    }

    private static void toDamp() {
        by("To DAMP: FIRE less by 1 .. 20 (0 at least)");
        for (int amount : new int[] {-1, 0, 21, MIN, MAX}) {
            SmokeTune x = town(1);
            x.stoke(0);
            due("damp(0, " + amount + ")", x.damp(0, amount), -1);
            due("FIRE", x.of(0, 5), 4);
        }
        for (int amount = 1; amount <= 20; amount++) {
            SmokeTune x = town(1);
            due("damp(0, " + amount + ") of no FIRE", x.damp(0, amount), 0);
            kindle(x, 0, 20);
            due("damp(0, " + amount + ") of FIRE 20", x.damp(0, amount), 20 - amount);
            due("COAL", x.of(0, 2), 994);
        }
        SmokeTune x = town(8);
        due("damp(7, 1)", x.damp(7, 1), 0);
        due("damp(8, 1)", x.damp(8, 1), -2);
        due("damp(-1, 1)", x.damp(-1, 1), -2);
    }

    private static void toBuy() {
        by("To BUY: COAL more by 1 .. 999 (999 at most)");
        int[] have = {0, 1, 500, 998, 999};
        for (int coal : have) {
            for (int amount : new int[] {-1, 0, 1000, MIN, MAX}) {
                SmokeTune x = new SmokeTune();
                x.house(0, 0, coal, 0, 0);
                due("buy(0, " + amount + ")", x.buy(0, amount), -1);
                due("COAL", x.of(0, 2), coal);
            }
            for (int amount : new int[] {1, 2, 498, 499, 500, 998, 999}) {
                SmokeTune x = new SmokeTune();
                x.house(0, 0, coal, 0, 0);
                due("buy(0, " + amount + ") with COAL " + coal, x.buy(0, amount), Math.min(999, coal + amount));
                due("of(0, 2)", x.of(0, 2), Math.min(999, coal + amount));
                due("undo()", x.undo(), 2);
                due("of(0, 2)", x.of(0, 2), coal);
            }
        }
        SmokeTune x = town(8);
        due("buy(7, 1)", x.buy(7, 1), 999);
        due("buy(8, 1)", x.buy(8, 1), -2);
        due("buy(-1, 1)", x.buy(-1, 1), -2);
    }

    private static void anHourPasses() {
        by("its CHORD is MET, if each of its NOTES SOUNDS in some HOUSE");
        SmokeTune x = town(2);
        kindle(x, 0, 12);
        kindle(x, 1, 12);
        int[] chords = {0, 1, 2, 3, 4, 5, 127};
        int[] met = {1, 1, 1, 1, 0, 0, 0};
        for (int i = 0; i < chords.length; i++) {
            x.score(0, chords[i]);
            due("sounds(2) with CHORD " + chords[i], x.sounds(2), met[i]);
            due("pass() with CHORD " + chords[i], x.pass(), met[i]);
            due("undo()", x.undo(), 3);
        }
        by("then all FIRES BURN down (0 at least; asked as all was ahead)");
        int[] fires = {0, 1, 2, 20};
        int[] burns = {0, 1, 2, 19, 20};
        for (int fire : fires) {
            for (int burn : burns) {
                SmokeTune y = town(1);
                kindle(y, 0, fire);
                law(y, "burns " + burn + " if hour=23 and day=5;burns 7 if hour=0 or day=6");
                y.terms(0, 23);
                y.terms(1, 5);
                y.pass();
                due("FIRE " + fire + " by " + burn, y.of(0, 5), Math.max(0, fire - burn));
                due("WARMTH of FIRE " + fire, y.of(0, 6), fire);
            }
        }
        by("it is the next HOUR, behind 23 the first one of the next DAY (behind DAY 999 it can't be)");
        int[][] ahead = {{0, 0}, {0, 22}, {0, 23}, {1, 0}, {998, 22}, {998, 23}, {999, 0}, {999, 22}, {999, 23}};
        int[][] behind = {{0, 1}, {0, 23}, {1, 0}, {1, 1}, {998, 23}, {999, 0}, {999, 1}, {999, 23}, null};
        for (int i = 0; i < ahead.length; i++) {
            SmokeTune y = town(1);
            y.terms(1, ahead[i][0]);
            y.terms(0, ahead[i][1]);
            int[] then = behind[i] == null ? ahead[i] : behind[i];
            due("pass() at " + ahead[i][0] + ", " + ahead[i][1], y.pass(), behind[i] == null ? -3 : 1);
            due("DAY", y.count(14), then[0]);
            due("HOUR", y.count(13), then[1]);
        }
    }

    /** The least coal of house 0 and the row of how often; no row where it can't be. */
    private static void least(SmokeTune x, int n, int hours, int coal, int... row) {
        String told = "least(0, " + n + ", " + hours + ", ";
        due(told + "-1)", x.least(0, n, hours, -1), coal);
        for (int i = 0; i < n; i++) {
            due(told + i + ")", x.least(0, n, hours, i), row.length == 0 ? -1 : row[i]);
        }
        due(told + n + ")", x.least(0, n, hours, n), -1);
        due(told + "-2)", x.least(0, n, hours, -2), -1);
    }

    private static void leastCoal() {
        by("ahead of each of n HOURS from now on it is stoked 0, 1 or 2 times");
        SmokeTune x = new SmokeTune();
        x.house(0, 0, 0, 0, 0);
        x.terms(2, 8);
        least(x, 1, 1, 2, 2);
        x.terms(2, 9);
        least(x, 1, 1, -1);
        least(x, 2, 2, 3, 1, 2);
        x.terms(2, 4);
        least(x, 1, 1, 1, 1);
        x.terms(2, 1);
        x.terms(3, 3);
        least(x, 1, 1, -1);
        least(x, 2, 2, 1, 1, 0);
        by("so that it SOUNDS in told ones of them (bits, the first one lowest) and in none of the others");
        x.terms(2, 3);
        x.terms(3, 12);
        least(x, 1, 0, 0, 0);
        least(x, 12, 0, 0, 0, 0, 0, 0, 0, 0, 0, 0, 0, 0, 0, 0);
        least(x, 12, 1 << 11, 1, 0, 0, 0, 0, 0, 0, 0, 0, 0, 0, 0, 1);
        // 4, then 3 SOUNDS still; 8, then 7 and 8 is beyond HIGH
        least(x, 2, 1, 4, 2, 2);
        least(x, 12, 3, 1, 1, 0, 0, 0, 0, 0, 0, 0, 0, 0, 0, 0);
        least(x, 12, 3 << 4, 1, 0, 0, 0, 0, 1, 0, 0, 0, 0, 0, 0, 0);
        least(x, 12, 4095, 4, 1, 0, 1, 0, 0, 0, 1, 0, 0, 0, 1, 0);
        for (int n : new int[] {1, 2, 12}) {
            due("told ones behind n", x.least(0, n, 1 << n, -1), -1);
            due("all told ones and one behind n", x.least(0, n, (1 << n + 1) - 1, -1), -1);
            due("told ones below 0", x.least(0, n, -1, -1), -1);
            due("told ones below 0", x.least(0, n, MIN, -1), -1);
        }
        by("as much COAL as it takes");
        due("COAL is 0", x.of(0, 2), 0);
        due("n 0", x.least(0, 0, 0, -1), -1);
        due("n 13", x.least(0, 13, 0, -1), -1);
        due("n -1", x.least(0, -1, 0, -1), -1);
        due("n 32", x.least(0, 32, 0, -1), -1);
        due("n 33", x.least(0, 33, 1, -1), -1);
        due("house -1", x.least(-1, 1, 0, -1), -1);
        due("house 1", x.least(1, 1, 0, -1), -1);
        by("the first row of how often");
        SmokeTune y = town(1);
        y.terms(2, 6);
        y.terms(3, 20);
        // 6 is reached behind two stokes ahead of the last, or one ahead of each of the last two: 0 0 2 is ahead of 0 1 1
        least(y, 3, 4, 2, 0, 0, 2);
        kindle(y, 0, 20);
        least(y, 12, 4095, 0, 0, 0, 0, 0, 0, 0, 0, 0, 0, 0, 0, 0);
    }

    private static void leastCoalByHours() {
        by("not stoked where it is BARRED");
        SmokeTune x = town(1);
        law(x, "bars if hour<2");
        least(x, 2, 3, -1);
        least(x, 3, 4, 1, 0, 0, 1);
        law(x, "bars if fire>3");
        x.terms(2, 5);
        least(x, 1, 1, -1);
        law(x, "bars if fire>4");
        least(x, 1, 1, 2, 2);
        by("(On paper; HOURS, DAYS in laws as they go on there, also behind 999:)");
        x.terms(2, 3);
        x.terms(0, 23);
        x.terms(1, 999);
        law(x, "burns 20;burns 0 if day=1000 and hour=0;bars if day>999 and hour>0");
        // 4 goes out at 23; at 0 of DAY 1000 it stays 4, then no more stoking, and it goes out behind 1
        least(x, 3, 7, 2, 1, 1, 0);
        least(x, 4, 15, -1);
        due("DAY as it was", x.count(14), 999);
        by("\"coal\" as now");
        SmokeTune y = new SmokeTune();
        y.house(0, 0, 2, 0, 0);
        law(y, "flares 3 if coal=2;bars if coal<2;burns 20 if coal=2");
        least(y, 5, 31, 5, 1, 1, 1, 1, 1);
        by("(others aside;");
        SmokeTune z = town(8);
        kindle(z, 7, 20);
        least(z, 2, 3, 1, 1, 0);
    }

    private static void ringsOfDinners() {
        by("(HOURS apart; the lower one of alike ones ahead)");
        SmokeTune x = new SmokeTune();
        due("rings(0) without HOUSES", x.rings(0), -1);
        x.house(0, 0, 0, 7, 0);
        due("alone", x.rings(0), 7);
        x.house(0, 0, 0, 0, 7);
        due("0 and 7 swapped", x.rings(0), 0);
        due("0 and 7 swapped", x.rings(1), 7);
        due("rings(2)", x.rings(2), -1);
        due("rings(-1)", x.rings(-1), -1);
        SmokeTune y = new SmokeTune();
        // 4 is wanted: 3 and 5 are alike, 3 is ahead
        y.house(0, 0, 0, 5, 4);
        y.house(0, 0, 0, 3, 5);
        due("the lower one of 3 and 5", y.rings(0), 3);
        due("the other one", y.rings(1), 5);
        SmokeTune z = new SmokeTune();
        // 0 is not beside 7: HOURS are not around
        z.house(0, 0, 0, 7, 0);
        z.house(0, 0, 0, 3, 7);
        z.house(0, 0, 0, 2, 3);
        due("0 is wanted: 2 is nearer than 7", z.rings(0), 2);
        due("7 is wanted", z.rings(1), 7);
        due("3 is wanted", z.rings(2), 3);
        by("step by step each HOUSE that is left points to the one that has what it wants most of what is left");
        SmokeTune w = new SmokeTune();
        for (int d = 0; d < 8; d++) {
            w.house(0, 0, 0, d, 0);
        }
        for (int d = 0; d < 8; d++) {
            due("all want 0: each has its own, step by step", w.rings(d), d);
        }
        SmokeTune v = new SmokeTune();
        for (int d = 0; d < 8; d++) {
            v.house(0, 0, 0, d, 7);
        }
        for (int d = 0; d < 8; d++) {
            due("all want 7", v.rings(d), d);
        }
        due("rings(8)", v.rings(8), -1);
    }

    private static void tuningAround() {
        by("(from one to another the shorter way around seven)");
        SmokeTune x = new SmokeTune();
        x.house(6, 3, 0, 0, 0);
        x.house(0, 3, 0, 1, 1);
        x.house(0, 3, 0, 2, 2);
        x.house(0, 3, 0, 3, 3);
        // 6 to 0 is one step, as is 6 to 5; 0 0 0 0 is ahead of 5 0 0 0
        due("6, 0, 0, 0", x.tune(3, 0), 1);
        due("6 goes to 0", x.tune(3, 1), 0);
        SmokeTune y = new SmokeTune();
        int[] notes = {0, 6, 6, 5, 5};
        for (int h = 0; h < notes.length; h++) {
            y.house(notes[h], 0, 0, h, h);
        }
        // 6 beside 0 and 5: 0 0 0 5 5 and 1 6 6 .. costs more; 0 5 5 5 5 costs 2, too, but is behind 0 0 0 5 5
        int[] row = {0, 0, 0, 5, 5};
        due("0, 6, 6, 5, 5", y.tune(0, 0), 2);
        for (int h = 0; h < row.length; h++) {
            due("tune(0, " + (1 + h) + ")", y.tune(0, 1 + h), row[h]);
        }
        by("the first as a row of NOTES by HOUSES");
        int[][] rows = {{4, 5, 3, 5}, {5, 4, 4, 4}, {1, 2, 0, 2}, {0, 1, 0, 0}, {6, 5, 0, 5}, {5, 6, 4, 6}, {6, 0, 0, 0}, {0, 6, 0, 0}};
        for (int[] r : rows) {
            SmokeTune two = new SmokeTune();
            two.house(r[0], 1, 0, 0, 0);
            two.house(r[1], 1, 0, 1, 1);
            due("moved of " + r[0] + ", " + r[1], two.tune(1, 0), 1);
            due("the first of " + r[0] + ", " + r[1], two.tune(1, 1), r[2]);
            due("the second of " + r[0] + ", " + r[1], two.tune(1, 2), r[3]);
        }
        by("new NOTES of its HOUSES, no two beside each other");
        SmokeTune z = new SmokeTune();
        for (int h = 0; h < 8; h++) {
            z.house(3, 3, 0, h, h);
        }
        due("eight alike", z.tune(3, 0), 0);
        due("HOUSE 7", z.tune(3, 8), 3);
        due("tune(3, 9)", z.tune(3, 9), -1);
        due("tune(3, -1)", z.tune(3, -1), -1);
        due("tune(4, 0)", z.tune(4, 0), -1);
        due("tune(-1, 0)", z.tune(-1, 0), -1);
        due("tune(0, 0): a STREET without HOUSES", z.tune(0, 0), 0);
        due("tune(0, 8): not in it", z.tune(0, 8), -1);
        due("tune(2, 1): not in it", z.tune(2, 1), -1);
    }

    private static void onTheHill() {
        by("each NOTE that ever was HEARD is that of a HOUSE in it, and no HOUSE in it has a NOTE that never was");
        SmokeTune x = new SmokeTune();
        for (int h = 0; h < 8; h++) {
            x.house(6, 0, 0, h, h);
        }
        due("nothing HEARD", x.hill(-1), 1);
        x.hear(64);
        due("eight with 6: all sets but the empty one", x.hill(-1), 255);
        due("hill(0)", x.hill(0), 1);
        due("hill(254)", x.hill(254), 255);
        due("hill(255)", x.hill(255), -1);
        due("hill(-2)", x.hill(-2), -1);
        due("hill(MIN)", x.hill(MIN), -1);
        by("To ASK: the HOUSE by which of these sets the more of both (it burns, does not) is least, the lowest");
        due("ask(0)", x.ask(0), 0);
        due("ask(1): 128 with it, 127 without", x.ask(1), 128);
        due("ask(2)", x.ask(2), -1);
        due("ask(-1)", x.ask(-1), -1);
        x.hear(1);
        due("no HOUSE with 0", x.hill(-1), 0);
        due("hill(0)", x.hill(0), -1);
        due("ask(0)", x.ask(0), -1);
        due("ask(1)", x.ask(1), -1);
        SmokeTune y = town(8);
        y.hear(127);
        // all burn, but of 0 and 7 (both with note 0) one at least
        due("all seven HEARD", y.hill(-1), 3);
        due("hill(0)", y.hill(0), 127);
        due("hill(1)", y.hill(1), 254);
        due("hill(2)", y.hill(2), 255);
        due("ask(0)", y.ask(0), 0);
        due("ask(1)", y.ask(1), 2);
    }

    private static void theWind() {
        by("The chance, of 1,000,000,000,000 parts, that a CHORD is MET by HOUSES as they SOUND now");
        SmokeTune x = new SmokeTune();
        for (int h = 0; h < 8; h++) {
            x.house(6, 0, 9, h, h);
        }
        long[] muted = {1_000_000_000_000L, 300_000_000_000L, 90_000_000_000L, 27_000_000_000L, 8_100_000_000L, 2_430_000_000L, 729_000_000L, 218_700_000L,
            65_610_000L};
        for (int h = 0; h <= 8; h++) {
            due("chance(64) of " + h, x.chance(64), 1_000_000_000_000L - muted[h]);
            due("chance(65) of " + h, x.chance(65), 0);
            due("chance(0) of " + h, x.chance(0), 1_000_000_000_000L);
            x.stoke(h);
        }
        for (int wind = 0; wind <= 10; wind++) {
            long part = 1_000_000_000_000L;
            for (int h = 0; h < 8; h++) {
                part = part * wind / 10;
            }
            x.terms(4, wind);
            due("chance(64) with WIND " + wind, x.chance(64), 1_000_000_000_000L - part);
        }
        for (int notes : new int[] {-1, 128, MIN, MAX}) {
            due("chance(" + notes + ")", x.chance(notes), -1);
        }
        by("NOTE by NOTE the part in which all its HOUSES are muted (WIND by ten for each HOUSE, cut each time) is taken away");
        SmokeTune y = town(8);
        for (int h = 0; h < 8; h++) {
            y.stoke(h);
        }
        // 0.91 for the two with 0, 0.7 for each of the six others
        due("chance(127)", y.chance(127), 107_060_590_000L);
        due("chance(126)", y.chance(126), 117_649_000_000L);
        y.terms(4, 10);
        due("chance(127) with WIND 10", y.chance(127), 0);
        y.terms(4, 0);
        due("chance(127) with WIND 0", y.chance(127), 1_000_000_000_000L);
    }

    private static void compared() {
        by("each stoked once ahead of an HOUR if its FIRE is below LOW");
        for (int fire = 0; fire <= 20; fire++) {
            SmokeTune x = town(1);
            kindle(x, 0, fire);
            due("compare(-1, 1) of FIRE " + fire, x.compare(-1, 1), fire < 3 ? 1 : 0);
            x.terms(2, 20);
            due("compare(-1, 1) of FIRE " + fire + ", LOW 20", x.compare(-1, 1), fire < 20 ? 1 : 0);
            x.terms(2, 1);
            due("compare(-1, 1) of FIRE " + fire + ", LOW 1", x.compare(-1, 1), fire < 1 ? 1 : 0);
        }
        SmokeTune x = town(8);
        due("n 0", x.compare(-1, 0), -1);
        due("n -1", x.compare(-1, -1), -1);
        due("n 61", x.compare(-1, 61), -1);
        due("n MAX", x.compare(-1, MAX), -1);
        due("n 1 of eight", x.compare(-1, 1), 8);
        due("n 60 of eight", x.compare(-1, 60), 8 * 16);
        due("law 0", x.compare(0, 1), -1);
        law(x, "burns 20;flares 0;bars");
        x.force(-1);
        due("law 0: BARS aside, each HOUR", x.compare(0, 60), 8 * 60);
        due("law 1", x.compare(1, 1), -1);
        due("law -2", x.compare(-2, 1), -1);
        due("law MIN", x.compare(MIN, 1), -1);
        SmokeTune z = town(1);
        law(z, "burns 0;burns 20 if hour=0;flares 3");
        // 3 goes out at 0, 3 again at 1, and stays
        due("a FIRE of 0 at least", z.compare(0, 3), 2);
        z.terms(2, 4);
        // 3 goes out, 3, 6
        due("a FIRE of 0 at most", z.compare(0, 3), 3);
        due("once more it is not stoked", z.compare(0, 4), 3);
        by("(On paper; HOURS, DAYS in laws as they go on there, also behind 999:)");
        SmokeTune w = town(1);
        w.terms(0, 23);
        w.terms(1, 999);
        law(w, "burns 0;burns 20 if hour=23 and day=999;burns 20 if hour=0 and day=1000;flares 2;flares 3 if hour=2 and day=1000");
        // 2 goes out at 23, 2 at 0, 2 at 1; at 2 it is 2 and 3, which stays
        due("around 23", w.compare(0, 4), 4);
        due("behind 999", w.compare(0, 60), 4);
        by("(as much COAL as it takes, \"coal\" as now, BARS aside)");
        SmokeTune y = new SmokeTune();
        y.house(0, 0, 0, 0, 0);
        law(y, "burns 20;flares 9 if coal=0;bars");
        due("COAL 0", y.compare(0, 60), 60);
        due("COAL 0", y.of(0, 2), 0);
    }

    /** Which house is drawn first, of so many, by that seed. */
    private static int firstDrawn(int houses, int seed) {
        SmokeTune x = town(houses);
        x.days(seed, 1);
        int found = -1;
        for (int h = 0; h < houses; h++) {
            if (x.drawn(h, 1) == 998) {
                found = found == -1 ? h : 99;
            }
        }
        return found;
    }

    private static void draws() {
        by("s is the SEED (0 .. 1,000,000)");
        SmokeTune x = town(1);
        for (int seed : new int[] {-1, 1_000_001, MIN, MAX}) {
            due("days(" + seed + ", 1)", x.days(seed, 1), -1);
        }
        due("days(0, 1)", x.days(0, 1), 1);
        due("days(1000000, 1)", x.days(1_000_000, 1), 1);
        by("n HOURS 1 .. 100");
        for (int n : new int[] {-1, 0, 101, MIN, MAX}) {
            due("days(1, " + n + ")", x.days(1, n), -1);
        }
        due("days(1, 100)", x.days(1, 100), 100);
        due("COAL of 100 draws", x.drawn(0, 1), 899);
        by("s becomes (s times 1103 and 12345) modulo 1,000,003, it is s modulo m");
        // seeds by which s becomes 0, 1, 2, 1,000,001, 1,000,002; the others 12345 and 1,000,000 * 1103 + 12345 = 9036
        int[] seeds = {870_345, 413_408, 956_474, 784_216, 327_279, 0, 1_000_000};
        int[] becomes = {0, 1, 2, 1_000_001, 1_000_002, 12_345, 9_036};
        for (int i = 0; i < seeds.length; i++) {
            for (int houses = 1; houses <= 8; houses++) {
                due("drawn of " + houses + " by SEED " + seeds[i], firstDrawn(houses, seeds[i]), becomes[i] % houses);
            }
        }
        by("it is stoked, if it can be");
        SmokeTune y = new SmokeTune();
        y.house(0, 0, 9, 0, 0);
        y.house(1, 1, 0, 1, 1);
        // 12,345, 628,841, 621,889, 953,857, 113,460 by SEED 0: 1 four times, then 0; what can't be stoked is a draw, too
        y.days(0, 4);
        due("COAL of 0 behind four draws", y.drawn(0, 1), 9);
        due("COAL of 1", y.drawn(1, 1), 0);
        due("FIRE of 1", y.drawn(1, 0), 0);
        y.days(0, 5);
        due("COAL of 0 behind five draws", y.drawn(0, 1), 8);
        due("FIRE of 0 behind five draws", y.drawn(0, 0), 3);
        by("(without any: none)");
        SmokeTune z = new SmokeTune();
        due("days(0, 100) without HOUSES", z.days(0, 100), 100);
        due("drawn(0, 0)", z.drawn(0, 0), -1);
        due("drawn(0, 2)", z.drawn(0, 2), 0);
    }

    private static void daysThatEnd() {
        by("then the HOUR passes, as long as it can");
        for (int hour = 20; hour <= 23; hour++) {
            SmokeTune x = new SmokeTune();
            x.terms(1, 999);
            x.terms(0, hour);
            due("days(0, 100) without HOUSES at " + hour, x.days(0, 100), 23 - hour);
            due("days(0, 3) without HOUSES at " + hour, x.days(0, 3), Math.min(3, 23 - hour));
            x.house(0, 0, 99, 0, 0);
            due("days(0, 100) at " + hour, x.days(0, 100), 23 - hour);
            due("COAL: one more HOUR has its draw", x.drawn(0, 1), 99 - (23 - hour) - 1);
            due("HOUR", x.count(13), hour);
            due("DAY", x.count(14), 999);
        }
        SmokeTune x = new SmokeTune();
        x.terms(1, 998);
        x.terms(0, 23);
        due("days(0, 100) from 998, 23", x.days(0, 100), 24);
        due("days(0, 24) from 998, 23", x.days(0, 24), 24);
        due("days(0, 23) from 998, 23", x.days(0, 23), 23);
    }

    private static void rows() {
        by("CHORDS 0 .. 127; one that can't be, one behind HOUR 23 is ASH, and leaves its HOUR as it was");
        for (int b = 0; b < 256; b++) {
            SmokeTune x = new SmokeTune();
            x.score(0, 5);
            x.score(1, 6);
            put(x, String.valueOf((char) b));
            due("row() of " + b, x.row(), b <= 127 ? 1 : 0);
            due("ash() of " + b, x.ash(), b <= 127 ? 0 : 1);
            due("chord(0) of " + b, x.chord(0), b <= 127 ? b : 5);
            due("chord(1) of " + b, x.chord(1), 6);
        }
        int[] lengths = {1, 23, 24, 25, 26, 399, 400};
        for (int length : lengths) {
            SmokeTune x = new SmokeTune();
            put(x, many("\u0007", length));
            due("row() of " + length + " bytes", x.row(), Math.min(24, length));
            due("ash() of " + length + " bytes", x.ash(), Math.max(0, length - 24));
            due("count(5)", x.count(5), 0);
            for (int hour = 0; hour < 24; hour++) {
                due("chord(" + hour + ") of " + length + " bytes", x.chord(hour), hour < length ? 7 : 0);
            }
        }
        SmokeTune x = new SmokeTune();
        put(x, many("\u0080", 23) + "\u0001\u0002");
        due("row() with HOUR 23 alone", x.row(), 1);
        due("ash()", x.ash(), 24);
        due("chord(23)", x.chord(23), 1);
        due("chord(0)", x.chord(0), 0);
    }

    private static void images() {
        by("IMAGES 0, 1 keep all but the TAPE, FAULT, ASH, where ORDERS stopped, what can be undone (nothing, behind back()), the latest DAYS");
        SmokeTune x = town(1);
        for (int k : new int[] {-1, 2, MIN, MAX}) {
            due("image(" + k + ")", x.image(k), -1);
            due("back(" + k + ")", x.back(k), -1);
        }
        due("back(0)", x.back(0), -2);
        due("image(0)", x.image(0), 0);
        due("back(1)", x.back(1), -2);
        x.stoke(0);
        due("image(1)", x.image(1), 0);
        due("count(4) behind image()", x.count(4), 1);
        due("back(0)", x.back(0), 0);
        due("FIRE", x.of(0, 5), 0);
        due("count(4) behind back()", x.count(4), 0);
        due("undo() behind back()", x.undo(), -3);
        due("back(1)", x.back(1), 0);
        due("FIRE", x.of(0, 5), 4);
        x.stoke(0);
        due("image(1) anew", x.image(1), 0);
        due("back(0)", x.back(0), 0);
        due("back(1)", x.back(1), 0);
        due("FIRE", x.of(0, 5), 8);
        due("undo() behind back() and none done", x.undo(), -3);
    }
}
