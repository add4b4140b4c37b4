/** Promises 23 to 33: least coal, rings, tuning, the hill, asking, the wind, laws compared, days by draws. */
public final class PaperTest {
    private static int wrong = 0;

    private static void due(int promise, String call, long got, long want) {
        if (got != want) {
            wrong++;
            System.out.println("promise " + promise + ": " + call + " answered " + got + ", due is " + want);
        }
    }

    public static void main(String[] args) {
        leastCoal();
        leastByLaw();
        leastThatCannotBe();
        rings();
        tuning();
        tuningTheFirstRow();
        tuningWholeTown();
        hearing();
        onTheHill();
        asking();
        chances();
        comparing();
        daysByDraws();
        daysAtTheirEnd();
        System.out.println(wrong == 0 ? "PaperTest: all answers are as due" : "PaperTest: " + wrong + " wrong");
        if (wrong != 0) {
            System.exit(1);
        }
    }

    private static void put(SmokeTune x, String text) {
        for (int i = 0; i < text.length(); i += 20) {
            int[] five = new int[5];
            for (int k = 0; k < 20; k++) {
                five[k / 4] = five[k / 4] << 8 | (i + k < text.length() ? text.charAt(i + k) : 0);
            }
            x.feed(five[0], five[1], five[2], five[3], five[4]);
        }
        x.end(text.length());
    }

    private static int law(SmokeTune x, String text) {
        put(x, text);
        int law = x.law();
        x.force(law);
        return law;
    }

    private static void rowDue(SmokeTune x, String told, int n, int hours, int coal, int... row) {
        due(23, told + ": coal", x.least(0, n, hours, -1), coal);
        for (int i = 0; i < n; i++) {
            due(23, told + ": ahead of the " + i + "-th", x.least(0, n, hours, i), row.length == 0 ? -1 : row[i]);
        }
    }

    private static void leastCoal() {
        SmokeTune x = new SmokeTune();
        x.house(0, 0, 0, 0, 0);
        // without a law: stoked by 4, burns 1, sounds at 3 to 12
        rowDue(x, "one hour", 1, 1, 1, 1);
        rowDue(x, "one silent hour", 1, 0, 0, 0);
        rowDue(x, "four hours", 4, 15, 2, 1, 0, 1, 0);
        rowDue(x, "sounds two of four", 4, 3, 1, 1, 0, 0, 0);
        rowDue(x, "sounds the last", 4, 8, 1, 0, 0, 0, 1);
        // 4 3|6 5 4 3|6 5 4 3|6 5: as late as can be
        rowDue(x, "twelve hours", 12, 4095, 4, 1, 0, 1, 0, 0, 0, 1, 0, 0, 0, 1, 0);
        rowDue(x, "every other hour can't be", 3, 5, -1);
        x.terms(2, 4);
        rowDue(x, "LOW 4: every other hour", 3, 5, 2, 1, 0, 1);
        x.terms(2, 8);
        rowDue(x, "LOW 8: twice", 2, 3, 3, 2, 1);
        x.terms(2, 9);
        rowDue(x, "LOW 9: it takes an hour ahead", 2, 2, 3, 1, 2);
        rowDue(x, "LOW 9: not at once", 1, 1, -1);
        due(23, "nothing is done", x.of(0, 5), 0);
        due(23, "nothing is undone", x.count(4), 0);
    }

    private static void leastByLaw() {
        SmokeTune x = new SmokeTune();
        x.house(0, 0, 7, 0, 0);
        x.terms(0, 22);
        law(x, "burns 20 if hour=23;burns 3 if day=1");
        // 22: 4, burns 1; 23: 3, burns 20; 0 of day 1: 4, burns 3; 1: 5, burns 3
        rowDue(x, "hours and days go on", 4, 15, 3, 1, 0, 1, 1);
        x.terms(1, 999);
        law(x, "burns 20 if day=1000");
        // behind day 999 comes day 1000: 22: 4, 23: 3, then 6 burns 20
        rowDue(x, "behind 999", 4, 15, 3, 1, 0, 1, 1);
        law(x, "bars if fire>0;flares 5");
        // a second stoke at once is barred; 5 4 3 2 1|0 ..
        rowDue(x, "barred while it burns", 3, 7, 1, 1, 0, 0);
        x.terms(0, 0);
        x.terms(1, 0);
        law(x, "flares coal;bars if coal<7");
        rowDue(x, "coal as now", 6, 63, 2, 1, 0, 0, 0, 0, 1);
        law(x, "bars if hour=1 or hour=2;burns 2");
        rowDue(x, "barred at 1 and 2", 3, 7, 2, 2, 0, 0);
        law(x, "flares 20");
        rowDue(x, "too high", 1, 1, -1);
        rowDue(x, "too high is silent", 1, 0, 0, 0);
        SmokeTune y = new SmokeTune();
        y.house(0, 0, 7, 0, 0);
        y.stoke(0);
        law(y, "bars;burns 2 if fire=4;burns 0");
        rowDue(y, "barred, and it SOUNDS where it may not", 1, 0, -1);
        rowDue(y, "barred, and burns as it will", 3, 7, 0, 0, 0, 0);
    }

    private static void leastThatCannotBe() {
        SmokeTune x = new SmokeTune();
        due(23, "no house", x.least(0, 1, 1, -1), -1);
        x.house(0, 0, 0, 0, 0);
        due(23, "n 0", x.least(0, 0, 0, -1), -1);
        due(23, "n 13", x.least(0, 13, 0, -1), -1);
        due(23, "n MAX", x.least(0, Integer.MAX_VALUE, 0, -1), -1);
        due(23, "n MIN", x.least(0, Integer.MIN_VALUE, 0, -1), -1);
        due(23, "house 1", x.least(1, 1, 1, -1), -1);
        due(23, "house -1", x.least(-1, 1, 1, -1), -1);
        due(23, "i 1 of 1", x.least(0, 1, 1, 1), -1);
        due(23, "i -2", x.least(0, 1, 1, -2), -1);
        due(23, "i MAX", x.least(0, 1, 1, Integer.MAX_VALUE), -1);
        due(23, "hours -1", x.least(0, 1, -1, -1), -1);
        due(23, "an hour beyond n", x.least(0, 1, 2, -1), -1);
        due(23, "NONE is no REFUSAL", x.count(6), 0);
    }

    private static void rings() {
        SmokeTune x = new SmokeTune();
        due(24, "rings(0)", x.rings(0), -1);
        x.house(0, 0, 0, 3, 6);
        due(24, "alone", x.rings(0), 3);
        x.house(0, 0, 0, 6, 1);
        x.house(0, 0, 0, 1, 3);
        due(24, "a ring of three: 0", x.rings(0), 6);
        due(24, "a ring of three: 1", x.rings(1), 1);
        due(24, "a ring of three: 2", x.rings(2), 3);
        due(24, "rings(3)", x.rings(3), -1);
        due(24, "rings(-1)", x.rings(-1), -1);
        x.house(0, 0, 0, 5, 6);
        due(24, "who wants what goes away has its own", x.rings(3), 5);
        due(24, "the ring is as it was", x.rings(0), 6);
        SmokeTune y = new SmokeTune();
        y.house(0, 0, 0, 2, 3);
        y.house(0, 0, 0, 4, 2);
        y.house(0, 0, 0, 7, 3);
        // 3 is wanted by 0: 2 and 4 are alike, the lower one is its own
        due(24, "the lower one of alike ones", y.rings(0), 2);
        due(24, "1 wants 2, then 4 of 4 and 7", y.rings(1), 4);
        due(24, "2 gets what is left", y.rings(2), 7);
        SmokeTune z = new SmokeTune();
        int[] wanted = {1, 0, 3, 2, 4, 0, 7, 6};
        for (int d = 0; d < 8; d++) {
            z.house(0, 0, 0, d, wanted[d]);
        }
        int[] has = {1, 0, 3, 2, 4, 5, 7, 6};
        for (int d = 0; d < 8; d++) {
            due(24, "eight houses: " + d, z.rings(d), has[d]);
        }
        due(24, "DINNERS are as they were", z.of(0, 3), 0);
        SmokeTune w = new SmokeTune();
        for (int d = 0; d < 8; d++) {
            w.house(0, 0, 0, d, (d + 3) % 8);
        }
        for (int d = 0; d < 8; d++) {
            due(24, "a ring of eight: " + d, w.rings(d), (d + 3) % 8);
        }
    }

    private static void tuning() {
        SmokeTune x = new SmokeTune();
        due(25, "tune(0, 0) without houses", x.tune(0, 0), 0);
        due(25, "tune(0, 1) without houses", x.tune(0, 1), -1);
        due(25, "tune(-1, 0)", x.tune(-1, 0), -1);
        due(25, "tune(4, 0)", x.tune(4, 0), -1);
        x.house(6, 1, 0, 0, 0);
        due(25, "the NOTE ahead of how far", x.tune(1, 1), 6);
        x.house(0, 1, 0, 1, 1);
        x.house(3, 0, 0, 2, 2);
        x.house(4, 2, 0, 3, 3);
        due(25, "6 and 0", x.tune(1, 0), 1);
        due(25, "0 and 0 are ahead of 5 and 0, 6 and 6", x.tune(1, 1), 0);
        due(25, "0", x.tune(1, 2), 0);
        due(25, "not in it", x.tune(1, 3), -1);
        due(25, "no such house", x.tune(1, 5), -1);
        due(25, "tune(1, 9)", x.tune(1, 9), -1);
        due(25, "tune(1, -1)", x.tune(1, -1), -1);
        due(25, "tune(1, MIN)", x.tune(1, Integer.MIN_VALUE), -1);
        due(25, "one alone", x.tune(0, 0), 0);
        due(25, "one alone stays", x.tune(0, 3), 3);
        due(25, "3 and 4 in two streets agree", x.tune(2, 4), 4);
        due(25, "a street without houses", x.tune(3, 0), 0);
        x.house(0, 1, 0, 4, 4);
        due(25, "6, 0, 0", x.tune(1, 0), 1);
        due(25, "6, 0, 0: first", x.tune(1, 1), 0);
        x.house(1, 1, 0, 5, 5);
        // 6 0 0 1: 0 0 0 0 costs 2, 6 6 6 .. costs more, 5 0 0 2 costs 2, 0 0 0 2 costs 2
        due(25, "6, 0, 0, 1", x.tune(1, 0), 2);
        due(25, "6, 0, 0, 1: the last", x.tune(1, 6), 0);
        due(25, "NOTES are as they were", x.of(0, 0), 6);
    }

    private static void tuningTheFirstRow() {
        int[][] notes = {{6, 6, 0}, {2, 2, 1}, {2, 1, 2}, {0, 1, 2}, {1, 0, 6}, {3, 4, 3, 4}};
        int[][] first = {{6, 6, 1}, {2, 2, 0}, {2, 0, 2}, {0, 0, 2}, {1, 1, 6}, {2, 4, 2, 4}};
        int[] moved = {1, 1, 1, 1, 1, 2};
        for (int i = 0; i < notes.length; i++) {
            SmokeTune x = new SmokeTune();
            for (int h = 0; h < notes[i].length; h++) {
                x.house(notes[i][h], 2, 0, h, h);
            }
            due(25, "the first row: moved of " + i, x.tune(2, 0), moved[i]);
            for (int h = 0; h < notes[i].length; h++) {
                due(25, "the first row: NOTE of " + i + ", " + h, x.tune(2, 1 + h), first[i][h]);
            }
        }
    }

    private static void tuningWholeTown() {
        SmokeTune x = new SmokeTune();
        for (int n = 0; n < 7; n++) {
            x.house(n, 3, 0, n, n);
        }
        // three notes agree at most, as 0 2 4; the other four move by one each
        due(25, "all seven", x.tune(3, 0), 4);
        int[] row = {0, 0, 2, 2, 4, 4, 0};
        for (int h = 0; h < 7; h++) {
            due(25, "all seven: " + h, x.tune(3, 1 + h), row[h]);
        }
        x.house(5, 3, 0, 7, 7);
        due(25, "5 twice", x.tune(3, 0), 4);
        int[] more = {0, 0, 2, 2, 5, 5, 0, 5};
        for (int h = 0; h < 8; h++) {
            due(25, "5 twice: " + h, x.tune(3, 1 + h), more[h]);
        }
    }

    private static void hearing() {
        SmokeTune x = new SmokeTune();
        due(26, "hear(-1)", x.hear(-1), -1);
        due(26, "hear(128)", x.hear(128), -1);
        due(26, "status()", x.status(), -1);
        due(26, "hear(0)", x.hear(0), 1);
        due(26, "hear(127)", x.hear(127), 2);
        for (int i = 3; i <= 6; i++) {
            due(26, "hear(1)", x.hear(1), i);
        }
        due(26, "a seventh", x.hear(1), -5);
        due(26, "status()", x.status(), -5);
        due(26, "-1 is ahead of -5", x.hear(128), -1);
        due(26, "count(2)", x.count(2), 6);
        due(27, "forget()", x.forget(), 6);
        due(27, "forget() again", x.forget(), 0);
        due(27, "count(2)", x.count(2), 0);
        due(27, "forget() is none of those that status() tells", x.status(), -1);
        due(26, "hear(2)", x.hear(2), 1);
    }

    private static void onTheHill() {
        SmokeTune x = new SmokeTune();
        due(28, "hill(-1) of nothing", x.hill(-1), 1);
        due(28, "hill(0)", x.hill(0), 0);
        due(28, "hill(1)", x.hill(1), -1);
        x.house(0, 0, 0, 0, 0);
        x.house(2, 0, 0, 1, 1);
        x.house(0, 0, 0, 2, 2);
        x.house(5, 0, 0, 3, 3);
        due(28, "nothing HEARD: none burns", x.hill(-1), 1);
        due(28, "nothing HEARD: none burns", x.hill(0), 0);
        x.hear(1);
        due(28, "0 HEARD", x.hill(-1), 3);
        due(28, "hill(0)", x.hill(0), 1);
        due(28, "hill(1)", x.hill(1), 4);
        due(28, "hill(2)", x.hill(2), 5);
        due(28, "hill(3)", x.hill(3), -1);
        due(28, "hill(-2)", x.hill(-2), -1);
        due(28, "hill(MAX)", x.hill(Integer.MAX_VALUE), -1);
        x.hear(32);
        due(28, "0, then 5 HEARD", x.hill(-1), 3);
        due(28, "hill(0)", x.hill(0), 9);
        x.hear(0);
        due(28, "nothing HEARD at once", x.hill(2), 13);
        x.hear(8);
        due(28, "a NOTE of no HOUSE", x.hill(-1), 0);
        due(28, "hill(0)", x.hill(0), -1);
        x.forget();
        due(28, "forgotten", x.hill(-1), 1);
    }

    private static void asking() {
        SmokeTune x = new SmokeTune();
        due(29, "ask(0) without houses", x.ask(0), -1);
        due(29, "ask(1) without houses", x.ask(1), -1);
        x.house(3, 0, 0, 0, 0);
        x.house(0, 0, 0, 1, 1);
        x.house(0, 0, 0, 2, 2);
        due(29, "nothing HEARD", x.ask(0), 0);
        due(29, "nothing HEARD", x.ask(1), 1);
        x.hear(1);
        // 2, 4, 6: house 0 never burns: 3; houses 1, 2 burn in two
        due(29, "0 HEARD", x.ask(0), 1);
        due(29, "how many are left", x.ask(1), 2);
        x.house(0, 0, 0, 3, 3);
        // seven sets, each of the three burns in four
        due(29, "three with 0", x.ask(0), 1);
        due(29, "how many are left", x.ask(1), 4);
        due(29, "ask(2)", x.ask(2), -1);
        due(29, "ask(-1)", x.ask(-1), -1);
        x.hear(64);
        due(29, "no sets", x.ask(0), -1);
        due(29, "no sets", x.ask(1), -1);
    }

    private static void chances() {
        SmokeTune x = new SmokeTune();
        due(30, "chance(-1)", x.chance(-1), -1L);
        due(30, "chance(128)", x.chance(128), -1L);
        due(30, "chance(0)", x.chance(0), 1_000_000_000_000L);
        due(30, "chance(127)", x.chance(127), 0L);
        for (int h = 0; h < 8; h++) {
            x.house(h < 6 ? 0 : h - 5, 0, 9, h, h);
        }
        x.stoke(0);
        due(30, "one", x.chance(1), 700_000_000_000L);
        x.stoke(1);
        due(30, "two", x.chance(1), 910_000_000_000L);
        due(30, "those that do not SOUND have none", x.chance(2), 0L);
        x.stoke(6);
        due(30, "two and one", x.chance(3), 637_000_000_000L);
        due(30, "NOTES aside", x.chance(2), 700_000_000_000L);
        x.terms(4, 10);
        due(30, "WIND 10", x.chance(1), 0L);
        x.terms(4, 0);
        due(30, "WIND 0", x.chance(3), 1_000_000_000_000L);
        due(30, "WIND 0, one that is not there", x.chance(7), 0L);
        x.terms(4, 9);
        for (int h = 2; h < 6; h++) {
            x.stoke(h);
        }
        x.stoke(7);
        // 1 - 0.9^6 = 0.468559; a tenth of that twice
        due(30, "six with 0", x.chance(1), 468_559_000_000L);
        due(30, "six with 0, one with 1, one with 2", x.chance(7), 4_685_590_000L);
        x.terms(4, 7);
        due(30, "WIND 7", x.chance(7), (1_000_000_000_000L - 117_649_000_000L) / 100 * 9);
    }

    private static void comparing() {
        SmokeTune x = new SmokeTune();
        due(31, "compare(-1, 1) without houses", x.compare(-1, 1), 0);
        due(31, "compare(-1, 61)", x.compare(-1, 61), -1);
        due(31, "compare(-1, 0)", x.compare(-1, 0), -1);
        due(31, "compare(0, 1)", x.compare(0, 1), -1);
        due(31, "compare(-2, 1)", x.compare(-2, 1), -1);
        x.house(0, 0, 0, 0, 0);
        // 4 3 2|6 5 4 3 2|6 ..: stoked at 0, 2, 6, 10, .. 58
        due(31, "one hour", x.compare(-1, 1), 1);
        due(31, "two hours", x.compare(-1, 2), 1);
        due(31, "three hours", x.compare(-1, 3), 2);
        due(31, "sixty hours", x.compare(-1, 60), 16);
        law(x, "burns 20;flares 1;bars");
        law(x, "burns 0");
        law(x, "burns 20 if day=1;burns 0 if day=0");
        law(x, "flares coal+1");
        due(31, "a fire that goes out, BARS aside", x.compare(0, 60), 60);
        due(31, "a fire that stays", x.compare(1, 60), 1);
        due(31, "days go on", x.compare(2, 30), 1 + 5);
        due(31, "coal as now", x.compare(3, 5), 5);
        due(31, "the law in FORCE aside", x.compare(-1, 60), 16);
        SmokeTune y = new SmokeTune();
        y.house(0, 0, 0, 0, 0);
        law(y, "flares 3-fire;burns 3 if fire=3 and hour%2=0;burns 1 if hour%2=1");
        // 0+3, burns 3: 0+3, burns 1: 2+1, burns 3: 0+3 ..: each hour
        due(31, "flares, burns asked of the fire then", y.compare(0, 8), 8);
        law(y, "flares 1;flares 5 if fire=0;burns 5 if hour=3");
        // 0+5, 4, 3, at hour 3 2+1 goes out, 0+5, 4, 3, 2+1
        due(31, "flares by fire and hour", y.compare(1, 8), 4);
        x.terms(1, 999);
        law(x, "burns 20 if day=1000;burns 0 if day=999");
        due(31, "behind 999", x.compare(4, 30), 1 + 5);
        x.terms(2, 20);
        // 3, 6, 9, 12, 15, 18, and once more to 20
        due(31, "LOW 20", x.compare(-1, 7), 7);
        x.house(0, 0, 0, 1, 1);
        x.terms(2, 3);
        due(31, "two houses", x.compare(-1, 60), 32);
        due(31, "compare(5, 1)", x.compare(5, 1), -1);
        due(31, "nothing is done", x.of(0, 5), 0);
    }

    private static void daysByDraws() {
        SmokeTune x = new SmokeTune();
        due(32, "days(-1, 1)", x.days(-1, 1), -1);
        due(32, "days(1000001, 1)", x.days(1_000_001, 1), -1);
        due(32, "days(0, 0)", x.days(0, 0), -1);
        due(32, "days(0, 101)", x.days(0, 101), -1);
        due(32, "status()", x.status(), -1);
        due(33, "drawn(0, 2) ahead of any", x.drawn(0, 2), -1);
        x.score(1, 1);
        // hour 1 comes five times in a hundred hours
        due(32, "days without houses", x.days(0, 100), 95);
        due(33, "FINES", x.drawn(0, 2), 0);
        due(33, "FIRE of no HOUSE", x.drawn(0, 0), -1);
        x.house(0, 0, 2, 0, 0);
        x.house(1, 0, 50, 1, 1);
        due(33, "HOUSES as they were in DAYS", x.drawn(0, 0), -1);
        // the draw is 12345 % 2
        due(32, "days(0, 1)", x.days(0, 1), 1);
        due(33, "12345 % 2 is house 1: FIRE", x.drawn(1, 0), 3);
        due(33, "COAL", x.drawn(1, 1), 49);
        due(33, "house 0: FIRE", x.drawn(0, 0), 0);
        due(33, "drawn(2, 0)", x.drawn(2, 0), -1);
        due(33, "drawn(-1, 0)", x.drawn(-1, 0), -1);
        due(33, "drawn(0, 3)", x.drawn(0, 3), -1);
        due(33, "drawn(0, -1)", x.drawn(0, -1), -1);
        due(33, "drawn(99, 2): k aside", x.drawn(99, 2), 0);
        due(32, "nothing is done", x.of(1, 5), 0);
        due(32, "HOUR", x.count(13), 0);
        due(32, "days(0, 101)", x.days(0, 101), -1);
        due(33, "the latest that was not REFUSED", x.drawn(1, 1), 49);
        x.stoke(0);
        due(32, "days(0, 1) with 0 and 1", x.days(0, 1), 1);
        due(33, "FINES that came", x.drawn(0, 2), 1);
        x.pass();
        x.stoke(1);
        x.pass();
        int fines = x.count(12);
        due(32, "FINES ahead of it", fines, 1);
        x.days(0, 1);
        due(33, "FINES that came in them alone", x.drawn(0, 2), 0);
        law(x, "bars");
        x.days(7, 3);
        due(33, "BARRED ones are not stoked", x.drawn(1, 1), 49);
        due(32, "nothing to undo by DAYS", x.count(4), 4);
        x.force(-1);
        // 12345; 12345 * 1103 + 12345 = 13,628,880, less 13 * 1,000,003 = 628,841; 628,841 * 1103 + 12345 =
        // 693,623,968, less 693 * 1,000,003 = 621,889: house 1 each time
        x.days(0, 3);
        due(33, "COAL of 1 behind three draws", x.drawn(1, 1), 46);
        due(33, "COAL of 0", x.drawn(0, 1), 1);
        // 1 * 1103 + 12345 = 13,448; 13,448 * 1103 + 12345 = 14,845,489, less 14 * 1,000,003 = 845,447
        x.days(1, 2);
        due(33, "COAL of 1 behind one of two draws", x.drawn(1, 1), 48);
        due(33, "COAL of 0 behind one of two draws", x.drawn(0, 1), 0);
    }

    private static void daysAtTheirEnd() {
        SmokeTune x = new SmokeTune();
        x.terms(1, 999);
        x.terms(0, 21);
        due(32, "days(5, 100) near the end", x.days(5, 100), 2);
        x.house(0, 0, 9, 0, 0);
        due(32, "days(5, 100) near the end", x.days(5, 100), 2);
        // two hours pass, the third draw stokes and its hour can't pass
        due(33, "COAL", x.drawn(0, 1), 6);
        due(33, "FIRE", x.drawn(0, 0), 4 - 1 + 4 - 1 + 4);
        due(32, "days(1000000, 1)", x.days(1_000_000, 1), 1);
        due(32, "HOUR", x.count(13), 21);
    }
}
