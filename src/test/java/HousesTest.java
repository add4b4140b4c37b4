/** Promises 1 to 6 and 15 to 22: houses, the score, terms, laws in force, what is done hour by hour, what is undone. */
public final class HousesTest {
    private static int wrong = 0;

    private static void due(int promise, String call, long got, long want) {
        if (got != want) {
            wrong++;
            System.out.println("promise " + promise + ": " + call + " answered " + got + ", due is " + want);
        }
    }

    public static void main(String[] args) {
        newObject();
        houses();
        factsOfHouses();
        theScore();
        theTerms();
        lawsInForce();
        discords();
        whatSounds();
        stoking();
        dampingAndBuying();
        passing();
        limitsOfPassing();
        undoing();
        undoneNoMore();
        System.out.println(wrong == 0 ? "HousesTest: all answers are as due" : "HousesTest: " + wrong + " wrong");
        if (wrong != 0) {
            System.exit(1);
        }
    }

    private static void put(SmokeTune x, String text) {
        for (int i = 0; i < text.length(); i += 20) {
            int[] five = new int[5];
            for (int k = 0; k < 20; k++) {
                five[k / 4] = five[k / 4] << 8 | (i + k < text.length() ? text.charAt(i + k) : 0);
            }
            x.feed(five[0], five[1], five[2], five[3], five[4]);
        }
        x.end(text.length());
    }

    private static int law(SmokeTune x, String text) {
        put(x, text);
        int law = x.law();
        x.force(law);
        return law;
    }

    private static int orders(SmokeTune x, String text) {
        put(x, text);
        return x.orders();
    }

    private static void newObject() {
        SmokeTune x = new SmokeTune();
        long[] counts = {0, 0, 0, 0, 0, 0, 0, 0, 0, 0, 0, -1, 0, 0, 0, 3, 12, 3, 0};
        for (int i = 0; i < counts.length; i++) {
            due(1, "new: count(" + i + ")", x.count(i), counts[i]);
        }
        for (int i = 0; i < 24; i++) {
            due(1, "new: chord(" + i + ")", x.chord(i), 0);
        }
        due(1, "new: status()", x.status(), 0);
        due(1, "new: ash()", x.ash(), 0);
        due(1, "new: fault()", x.fault(), -1);
        due(1, "new: stopped()", x.stopped(), -1);
        due(1, "new: of(0, 0)", x.of(0, 0), -1);
        due(1, "new: drawn(0, 2)", x.drawn(0, 2), -1);
        due(1, "new: forget()", x.forget(), 0);
        due(1, "NONE", SmokeTune.NONE, -1);
        SmokeTune y = new SmokeTune();
        x.house(1, 1, 1, 1, 1);
        due(1, "another object: count(0)", y.count(0), 0);
    }

    private static void houses() {
        SmokeTune x = new SmokeTune();
        int[][] bad = {{-1, 0, 0, 0, 0}, {7, 0, 0, 0, 0}, {0, -1, 0, 0, 0}, {0, 4, 0, 0, 0}, {0, 0, -1, 0, 0}, {0, 0, 1000, 0, 0},
            {0, 0, 0, -1, 0}, {0, 0, 0, 8, 0}, {0, 0, 0, 0, -1}, {0, 0, 0, 0, 8}, {Integer.MIN_VALUE, 0, 0, 0, 0}, {0, 0, Integer.MAX_VALUE, 0, 0}};
        for (int[] b : bad) {
            due(2, "house of a number that can't be", x.house(b[0], b[1], b[2], b[3], b[4]), -1);
        }
        due(2, "count(0)", x.count(0), 0);
        due(2, "house(6, 3, 999, 7, 7)", x.house(6, 3, 999, 7, 7), 0);
        due(2, "house(0, 0, 0, 7, 0)", x.house(0, 0, 0, 7, 0), -3);
        due(2, "status()", x.status(), -3);
        due(2, "house(9, 0, 0, 7, 0): -1 is ahead of -3", x.house(9, 0, 0, 7, 0), -1);
        for (int d = 0; d < 7; d++) {
            due(2, "house with dinner " + d, x.house(d, d % 4, d, d, 7 - d), d + 1);
        }
        due(2, "the ninth house: its dinner is always another one's", x.house(0, 0, 0, 3, 0), -3);
        due(2, "count(0)", x.count(0), 8);
    }

    private static void factsOfHouses() {
        SmokeTune x = new SmokeTune();
        x.house(6, 3, 999, 7, 2);
        long[] facts = {6, 3, 999, 7, 2, 0, 0, 0, 1, 4, 0, -1};
        for (int i = 0; i < facts.length; i++) {
            due(3, "of(0, " + i + ")", x.of(0, i), facts[i]);
        }
        due(3, "of(0, -1)", x.of(0, -1), -1);
        due(3, "of(1, 0)", x.of(1, 0), -1);
        due(3, "of(-1, 0)", x.of(-1, 0), -1);
        due(3, "of(MIN, MAX)", x.of(Integer.MIN_VALUE, Integer.MAX_VALUE), -1);
        x.stoke(0);
        x.pass();
        due(3, "FIRE", x.of(0, 5), 3);
        due(3, "WARMTH", x.of(0, 6), 4);
        due(3, "3 SOUNDS", x.of(0, 7), 1);
        x.pass();
        due(3, "2 does not SOUND", x.of(0, 7), 0);
        x.stoke(0);
        x.stoke(0);
        x.stoke(0);
        due(3, "14 does not SOUND", x.of(0, 7), 0);
        x.damp(0, 2);
        due(3, "12 SOUNDS", x.of(0, 7), 1);
        law(x, "burns 21;flares 0-1;bars if coal>900");
        due(3, "BURNS 20 at most", x.of(0, 8), 20);
        due(3, "FLARES 0 at least", x.of(0, 9), 0);
        due(3, "BARRED", x.of(0, 10), 1);
        law(x, "burns 0 - 5; flares 20; bars if coal = 1");
        due(3, "BURNS 0 at least", x.of(0, 8), 0);
        due(3, "FLARES 20", x.of(0, 9), 20);
        due(3, "not BARRED", x.of(0, 10), 0);
        due(3, "of is no REFUSAL", x.status(), 0);
    }

    private static void theScore() {
        SmokeTune x = new SmokeTune();
        due(4, "score(0, 127)", x.score(0, 127), 0);
        due(4, "score(0, 1)", x.score(0, 1), 127);
        due(4, "score(23, 64)", x.score(23, 64), 0);
        due(5, "chord(0)", x.chord(0), 1);
        due(5, "chord(23)", x.chord(23), 64);
        due(5, "chord(1)", x.chord(1), 0);
        due(5, "chord(-1)", x.chord(-1), -1);
        due(5, "chord(24)", x.chord(24), -1);
        due(4, "score(-1, 0)", x.score(-1, 0), -1);
        due(4, "score(24, 0)", x.score(24, 0), -1);
        due(4, "score(0, -1)", x.score(0, -1), -1);
        due(4, "score(0, 128)", x.score(0, 128), -1);
        due(4, "count(6)", x.count(6), 4);
        due(4, "chord(0) as it was", x.chord(0), 1);
        due(4, "score(0, 0)", x.score(0, 0), 1);
    }

    private static void theTerms() {
        SmokeTune x = new SmokeTune();
        int[] first = {0, 0, 3, 12, 3, 0};
        int[] least = {0, 0, 1, 1, 0, 0};
        int[] most = {23, 999, 20, 20, 10, 9};
        for (int i = 0; i < 6; i++) {
            due(6, "terms(" + i + ", most)", x.terms(i, most[i]), first[i]);
            due(6, "terms(" + i + ", least)", x.terms(i, least[i]), most[i]);
            due(6, "terms(" + i + ", least - 1)", x.terms(i, least[i] - 1), -1);
            due(6, "terms(" + i + ", most + 1)", x.terms(i, most[i] + 1), -1);
            due(6, "count(" + (13 + i) + ")", x.count(13 + i), least[i]);
        }
        due(6, "terms(-1, 1)", x.terms(-1, 1), -1);
        due(6, "terms(6, 1)", x.terms(6, 1), -1);
        due(6, "terms(MAX, MAX)", x.terms(Integer.MAX_VALUE, Integer.MAX_VALUE), -1);
        x.house(0, 0, 9, 0, 0);
        x.stoke(0);
        x.terms(2, 5);
        x.terms(3, 4);
        due(6, "HIGH below LOW: nothing SOUNDS", x.of(0, 7), 0);
        x.terms(2, 4);
        due(6, "LOW, HIGH 4", x.of(0, 7), 1);
    }

    private static void lawsInForce() {
        SmokeTune x = new SmokeTune();
        x.house(0, 0, 9, 0, 0);
        due(15, "force(0) without", x.force(0), -2);
        due(15, "status()", x.status(), -2);
        due(15, "force(-1)", x.force(-1), -1);
        due(15, "status()", x.status(), 0);
        put(x, "burns 7");
        due(15, "law()", x.law(), 0);
        due(15, "a law is not in FORCE by itself", x.of(0, 8), 1);
        due(15, "force(0)", x.force(0), -1);
        due(15, "of(0, 8)", x.of(0, 8), 7);
        put(x, "flares 7");
        due(15, "law()", x.law(), 1);
        due(15, "force(1)", x.force(1), 0);
        due(15, "of(0, 8): the first law is in FORCE no more", x.of(0, 8), 1);
        due(15, "force(2)", x.force(2), -2);
        due(15, "force(-2)", x.force(-2), -2);
        due(15, "force(MIN)", x.force(Integer.MIN_VALUE), -2);
        due(15, "count(11)", x.count(11), 1);
        due(15, "force(-1)", x.force(-1), 1);
        due(15, "count(11)", x.count(11), -1);
        due(15, "count(7)", x.count(7), 4);
    }

    private static void discords() {
        SmokeTune x = new SmokeTune();
        due(16, "discord() without houses", x.discord(), 0);
        x.house(6, 0, 20, 0, 0);
        x.house(0, 0, 30, 1, 1);
        x.house(1, 0, 40, 2, 2);
        x.house(1, 1, 50, 3, 3);
        x.house(0, 1, 60, 4, 4);
        x.house(2, 1, 70, 5, 5);
        for (int h = 0; h < 5; h++) {
            x.stoke(h);
        }
        due(16, "6 and 0, 0 and 1 in a street, 1 and 0 in another one", x.discord(), 3);
        law(x, "fines house*100+note*10+other");
        // houses 0, 1: 0 + 60 + 0; 1, 2: 100 + 0 + 1; 3, 4: 300 + 10 + 0
        due(16, "of the lower house", x.discord(), 60 + 101 + 310);
        law(x, "fines coal");
        due(16, "coal of the lower house", x.discord(), 19 + 29 + 49);
        x.stoke(0);
        law(x, "fines fire");
        due(16, "fire of the lower house", x.discord(), 8 + 4 + 4);
        law(x, "fines 1000");
        due(16, "999 at most", x.discord(), 3 * 999);
        law(x, "fines 3-1000;fines 5 if street=1;fines 1/0");
        due(16, "0 at least, the last that HOLDS", x.discord(), 5);
        law(x, "fines other if other<1 and street=0; fines 2 if street=1 and other=0-1");
        due(16, "others as without", x.discord(), 0 + 1 + 1);
        x.damp(3, 20);
        due(16, "one that does not SOUND is in no discord", x.discord(), 0 + 1);
        x.stoke(5);
        x.force(-1);
        due(16, "0 and 2 are not beside each other", x.discord(), 2);
        due(16, "FINES are as they were", x.count(12), 0);
        discordsOfAllNotes();
        discordsByHours();
    }

    private static void discordsByHours() {
        SmokeTune x = new SmokeTune();
        x.house(3, 0, 9, 0, 0);
        x.house(4, 0, 9, 1, 1);
        x.stoke(0);
        x.stoke(1);
        x.terms(0, 5);
        x.terms(1, 70);
        x.terms(5, 7);
        law(x, "fines day*10+hour+mood*2");
        due(16, "HOUR, DAY, MOOD as now", x.discord(), 719);
    }

    private static void discordsOfAllNotes() {
        for (int low = 0; low < 7; low++) {
            for (int high = 0; high < 7; high++) {
                SmokeTune x = new SmokeTune();
                x.house(low, 3, 9, 0, 0);
                x.house(high, 3, 9, 1, 1);
                x.stoke(0);
                due(16, "one alone", x.discord(), 0);
                x.stoke(1);
                boolean beside = high == (low + 1) % 7 || low == (high + 1) % 7;
                due(16, low + " and " + high, x.discord(), beside ? 1 : 0);
            }
        }
    }

    private static void whatSounds() {
        SmokeTune x = new SmokeTune();
        due(17, "sounds(0)", x.sounds(0), 0);
        due(17, "sounds(1)", x.sounds(1), 0);
        due(17, "sounds(2): a CHORD without NOTES is MET", x.sounds(2), 1);
        for (int n = 0; n < 7; n++) {
            x.house(n, n % 4, 9, n, n);
        }
        x.stoke(4);
        x.stoke(6);
        due(17, "sounds(1)", x.sounds(1), 0);
        x.stoke(1);
        due(17, "sounds(0)", x.sounds(0), 16 + 64 + 2);
        due(17, "4, 6, 1 around seven", x.sounds(1), 1);
        x.stoke(0);
        x.stoke(2);
        x.stoke(3);
        x.stoke(5);
        due(17, "sounds(0)", x.sounds(0), 127);
        due(17, "all seven", x.sounds(1), 7);
        x.score(0, 127);
        due(17, "sounds(2)", x.sounds(2), 1);
        x.damp(3, 2);
        due(17, "sounds(2) without 3", x.sounds(2), 0);
        due(17, "sounds(1) without 3", x.sounds(1), 4);
        x.score(0, 127 - 8);
        due(17, "sounds(2) more than the CHORD", x.sounds(2), 1);
        due(17, "sounds(-1)", x.sounds(-1), -1);
        due(17, "sounds(3)", x.sounds(3), -1);
    }

    private static void stoking() {
        SmokeTune x = new SmokeTune();
        due(18, "stoke(0) without", x.stoke(0), -2);
        x.house(0, 0, 6, 0, 0);
        due(18, "stoke(-1)", x.stoke(-1), -2);
        due(18, "stoke(1)", x.stoke(1), -2);
        for (int i = 1; i <= 5; i++) {
            due(18, "stoke(0)", x.stoke(0), 4 * i);
        }
        due(18, "stoke(0): 20 at most", x.stoke(0), 20);
        due(18, "COAL", x.of(0, 2), 0);
        due(18, "stoke(0) without COAL", x.stoke(0), -3);
        due(18, "status()", x.status(), -3);
        x.buy(0, 10);
        x.damp(0, 20);
        law(x, "bars if fire>6;flares 3+coal if coal=10;flares 2 if house=1");
        due(18, "stoke(0): COAL as it was ahead", x.stoke(0), 13);
        due(18, "stoke(0) BARRED", x.stoke(0), -3);
        due(18, "COAL of one that is BARRED", x.of(0, 2), 9);
        x.damp(0, 7);
        due(18, "stoke(0)", x.stoke(0), 10);
        law(x, "flares 0");
        due(18, "stoke(0) by 0 costs COAL, too", x.stoke(0), 10);
        due(18, "COAL", x.of(0, 2), 7);
        law(x, "bars if hour=1 or day=1;flares 1 if hour=0 and day=0");
        due(18, "stoke(0): HOUR and DAY as now", x.stoke(0), 11);
        x.damp(0, 1);
        law(x, "bars;flares 9 if other=0-1");
        due(18, "bars without if", x.stoke(0), -3);
        x.force(-1);
        due(18, "law()", law(x, "flares 9 if other=0-1"), 4);
        due(18, "other is -1", x.stoke(0), 19);
    }

    private static void dampingAndBuying() {
        SmokeTune x = new SmokeTune();
        due(19, "damp(0, 1)", x.damp(0, 1), -2);
        due(19, "damp(0, 21): -1 is ahead of -2", x.damp(0, 21), -1);
        due(20, "buy(0, 1)", x.buy(0, 1), -2);
        due(20, "buy(0, 1000): -1 is ahead of -2", x.buy(0, 1000), -1);
        x.house(0, 0, 9, 0, 0);
        x.stoke(0);
        x.stoke(0);
        due(19, "damp(0, 3)", x.damp(0, 3), 5);
        due(19, "damp(0, 0)", x.damp(0, 0), -1);
        due(19, "damp(0, -1)", x.damp(0, -1), -1);
        due(19, "damp(0, MIN)", x.damp(0, Integer.MIN_VALUE), -1);
        due(19, "FIRE", x.of(0, 5), 5);
        due(19, "damp(0, 20)", x.damp(0, 20), 0);
        due(19, "damp(0, 1) of no fire", x.damp(0, 1), 0);
        due(20, "buy(0, 3)", x.buy(0, 3), 10);
        due(20, "buy(0, 0)", x.buy(0, 0), -1);
        due(20, "buy(0, -5)", x.buy(0, -5), -1);
        due(20, "buy(1, 5)", x.buy(1, 5), -2);
        due(20, "buy(0, 999): 999 at most", x.buy(0, 999), 999);
        due(20, "buy(0, 1) of 999", x.buy(0, 1), 999);
        due(19, "damp, buy of no change can be undone", x.count(4), 8);
    }

    private static void passing() {
        SmokeTune x = new SmokeTune();
        x.score(0, 1);
        due(21, "pass() with a CHORD that is not MET", x.pass(), 0);
        due(21, "pass() with none", x.pass(), 1);
        x.house(0, 2, 20, 0, 0);
        x.house(1, 2, 20, 1, 1);
        x.score(2, 3);
        x.score(3, 3);
        x.stoke(0);
        x.stoke(1);
        due(21, "pass() MET", x.pass(), 1);
        due(21, "FINES", x.count(12), 1);
        due(21, "FIRE of 0", x.of(0, 5), 3);
        due(21, "WARMTH of 0", x.of(0, 6), 4);
        due(21, "pass() MET at 3", x.pass(), 1);
        due(21, "FINES", x.count(12), 2);
        x.score(4, 1);
        due(21, "pass() at 2: not MET", x.pass(), 0);
        due(21, "FINES as they were", x.count(12), 2);
        due(21, "WARMTH of 0", x.of(0, 6), 9);
        due(21, "HOUR", x.count(13), 5);
        law(x, "burns fire-hour+5;fines 7;burns 4 if fire=9");
        x.stoke(0);
        x.stoke(1);
        due(21, "pass(): laws as all was ahead", x.pass(), 1);
        due(21, "FIRE of 0 by the law", x.of(0, 5), 0);
        due(21, "FINES by the law", x.count(12), 9);
        x.pass();
        due(21, "FIRE is 0 at least", x.of(0, 5), 0);
        law(x, "flares 20;burns house*3+1;burns 9 if coal=7");
        x.stoke(0);
        x.stoke(1);
        x.pass();
        due(21, "FIRE of 0", x.of(0, 5), 19);
        due(21, "FIRE of 1", x.of(1, 5), 16);
    }

    private static void limitsOfPassing() {
        SmokeTune x = new SmokeTune();
        x.terms(0, 23);
        due(21, "pass() at 23", x.pass(), 1);
        due(21, "HOUR", x.count(13), 0);
        due(21, "DAY", x.count(14), 1);
        x.terms(1, 999);
        x.terms(0, 22);
        due(21, "pass() at 22 of 999", x.pass(), 1);
        due(21, "pass() at 23 of 999", x.pass(), -3);
        due(21, "status()", x.status(), -3);
        due(21, "HOUR", x.count(13), 23);
        due(21, "DAY", x.count(14), 999);
        x.terms(1, 0);
        x.terms(3, 20);
        x.house(0, 0, 9, 0, 0);
        x.house(1, 0, 9, 1, 0);
        law(x, "burns 0;flares 20;fines 999");
        x.stoke(0);
        x.stoke(1);
        for (int i = 0; i < 5; i++) {
            due(21, "orders of 100 HOURS", orders(x, "pass times 20;pass times 20;pass times 20;pass times 20;pass times 20"), 100);
        }
        due(21, "FINES are 99,999 at most", x.count(12), 99_999);
        due(21, "WARMTH is 9,999 at most", x.of(0, 6), 9_999);
        due(21, "DAY", x.count(14), 21);
        due(21, "HOUR", x.count(13), 19);
    }

    private static void undoing() {
        SmokeTune x = new SmokeTune();
        due(22, "undo() of nothing", x.undo(), -3);
        due(22, "status()", x.status(), -3);
        x.house(0, 0, 9, 0, 0);
        x.house(1, 0, 9, 1, 1);
        x.stoke(0);
        x.stoke(1);
        x.buy(1, 4);
        x.damp(1, 1);
        x.terms(9, 9);
        x.house(0, 0, 0, 0, 0);
        due(22, "REFUSED ones undo nothing", x.count(4), 4);
        x.pass();
        x.stoke(7);
        x.damp(0, 0);
        due(22, "REFUSED ones are not kept", x.count(4), 5);
        x.score(0, 5);
        due(22, "undo() of pass()", x.undo(), 3);
        due(22, "FINES", x.count(12), 0);
        due(22, "WARMTH", x.of(1, 6), 0);
        due(22, "HOUR", x.count(13), 0);
        due(22, "FIRE", x.of(1, 5), 3);
        due(22, "score() is not undone", x.chord(0), 5);
        due(22, "undo() of damp()", x.undo(), 1);
        due(22, "FIRE", x.of(1, 5), 4);
        due(22, "undo() of buy()", x.undo(), 2);
        due(22, "COAL", x.of(1, 2), 8);
        due(22, "undo() of stoke()", x.undo(), 0);
        due(22, "COAL", x.of(1, 2), 9);
        due(22, "FIRE", x.of(1, 5), 0);
        due(22, "undo() of stoke()", x.undo(), 0);
        due(22, "undo() no more", x.undo(), -3);
        x.stoke(0);
        x.stoke(1);
        x.pass();
        x.pass();
        due(22, "FINES", x.count(12), 2);
        x.undo();
        due(22, "FINES that were there ahead", x.count(12), 1);
        due(22, "WARMTH that was there ahead", x.of(0, 6), 4);
        x.terms(0, 23);
        x.terms(1, 4);
        x.pass();
        due(22, "DAY", x.count(14), 5);
        x.undo();
        due(22, "DAY undone", x.count(14), 4);
        due(22, "HOUR undone", x.count(13), 23);
    }

    private static void undoneNoMore() {
        SmokeTune x = new SmokeTune();
        x.house(0, 0, 9, 0, 0);
        for (int i = 0; i < 17; i++) {
            x.buy(0, 1);
        }
        due(22, "16 are kept", x.count(4), 16);
        for (int i = 0; i < 16; i++) {
            due(22, "undo()", x.undo(), 2);
        }
        due(22, "COAL of the first buy()", x.of(0, 2), 10);
        due(22, "undo() behind 16", x.undo(), -3);
        due(22, "orders()", orders(x, "stoke 0;damp 0 by 1;buy 0 by 5;pass"), 4);
        due(22, "ORDERS are undone one by one", x.undo(), 3);
        due(22, "undo()", x.undo(), 2);
        due(22, "undo()", x.undo(), 1);
        due(22, "FIRE", x.of(0, 5), 4);
        due(22, "orders() of 20", orders(x, "buy 0 by 1 times 20"), 20);
        due(22, "16 are kept", x.count(4), 16);
        x.terms(5, 0);
        due(22, "terms() lets nothing be undone", x.count(4), 0);
        due(22, "undo() behind terms()", x.undo(), -3);
        x.buy(0, 1);
        x.house(1, 1, 1, 1, 1);
        due(22, "undo() behind house()", x.undo(), -3);
        x.stoke(1);
        due(22, "undo() of what came behind house()", x.undo(), 0);
        due(22, "undo() no more", x.undo(), -3);
    }
}
