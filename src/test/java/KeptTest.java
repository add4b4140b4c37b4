/** Promises 34 to 37: images, going back, counts, status. */
public final class KeptTest {
    private static int wrong = 0;

    private static void due(int promise, String call, long got, long want) {
        if (got != want) {
            wrong++;
            System.out.println("promise " + promise + ": " + call + " answered " + got + ", due is " + want);
        }
    }

    public static void main(String[] args) {
        wrongImages();
        whatImagesKeep();
        whatImagesDoNotKeep();
        twoImages();
        counts();
        refusals();
        statusOfCalls();
        statusIsNotTouched();
        System.out.println(wrong == 0 ? "KeptTest: all answers are as due" : "KeptTest: " + wrong + " wrong");
        if (wrong != 0) {
            System.exit(1);
        }
    }

    private static void put(SmokeTune x, String text) {
        for (int i = 0; i < text.length(); i += 20) {
            int[] five = new int[5];
            for (int k = 0; k < 20; k++) {
                five[k / 4] = five[k / 4] << 8 | (i + k < text.length() ? text.charAt(i + k) : 0);
            }
            x.feed(five[0], five[1], five[2], five[3], five[4]);
        }
        x.end(text.length());
    }

    private static int law(SmokeTune x, String text) {
        put(x, text);
        return x.law();
    }

    private static int orders(SmokeTune x, String text) {
        put(x, text);
        return x.orders();
    }

    private static void wrongImages() {
        SmokeTune x = new SmokeTune();
        due(35, "back(0)", x.back(0), -2);
        due(35, "back(1)", x.back(1), -2);
        due(35, "back(2)", x.back(2), -1);
        due(35, "back(-1)", x.back(-1), -1);
        due(34, "image(2)", x.image(2), -1);
        due(34, "image(-1)", x.image(-1), -1);
        due(34, "image(MIN)", x.image(Integer.MIN_VALUE), -1);
        due(34, "image(1)", x.image(1), 0);
        due(35, "back(0)", x.back(0), -2);
        due(35, "back(1)", x.back(1), 0);
        due(35, "back(1) again: IMAGES stay", x.back(1), 0);
    }

    private static void whatImagesKeep() {
        SmokeTune x = new SmokeTune();
        x.house(0, 0, 9, 0, 0);
        x.house(1, 0, 9, 1, 1);
        x.stoke(0);
        x.stoke(1);
        x.score(5, 7);
        x.hear(1);
        x.pass();
        law(x, "burns 2");
        law(x, "burns 3");
        x.force(1);
        x.terms(4, 8);
        due(34, "image(0)", x.image(0), 0);
        x.house(2, 1, 9, 2, 2);
        x.stoke(2);
        x.stoke(0);
        x.damp(1, 1);
        x.score(5, 0);
        x.hear(2);
        x.stoke(1);
        x.pass();
        due(34, "FINES behind the IMAGE", x.count(12), 2);
        law(x, "burns 4");
        x.force(2);
        x.terms(4, 1);
        x.terms(5, 1);
        due(35, "back(0)", x.back(0), 0);
        long[] counts = {2, 2, 1, 2, 0, 0};
        for (int i = 0; i < counts.length; i++) {
            due(35, "count(" + i + ")", x.count(i), counts[i]);
        }
        due(35, "FORCE", x.count(11), 1);
        due(35, "FINES", x.count(12), 1);
        due(35, "HOUR", x.count(13), 1);
        due(35, "WIND", x.count(17), 8);
        due(35, "MOOD", x.count(18), 0);
        due(35, "chord(5)", x.chord(5), 7);
        due(35, "FIRE", x.of(0, 5), 3);
        due(35, "COAL", x.of(0, 2), 8);
        due(35, "WARMTH", x.of(0, 6), 4);
        due(35, "BURNS by its LAW", x.of(0, 8), 3);
        due(35, "of a HOUSE that is no more", x.of(2, 0), -1);
        due(35, "HEARD", x.hill(0), 1);
        due(35, "a LAW takes the number that is free again", law(x, "burns 5"), 2);
        due(35, "the DINNER is free again", x.house(3, 3, 3, 2, 3), 2);
        due(35, "a new HOUSE has no FIRE", x.of(2, 5), 0);
        due(35, "a new HOUSE has no WARMTH", x.of(2, 6), 0);
        x.force(2);
        due(35, "the new LAW", x.of(0, 8), 5);
        x.back(0);
        due(35, "back(0) once more: LAWS", x.count(3), 2);
        due(35, "back(0) once more: HOUSES", x.count(0), 2);
    }

    private static void whatImagesDoNotKeep() {
        SmokeTune x = new SmokeTune();
        x.house(0, 0, 9, 0, 0);
        x.stoke(0);
        due(34, "image(0)", x.image(0), 0);
        due(34, "image() leaves what can be undone", x.count(4), 1);
        x.stoke(0);
        x.days(0, 1);
        x.feed(-1, 0, 0, 0, 0);
        x.row();
        law(x, "x");
        orders(x, "pass;stoke 7");
        law(x, " x");
        x.feed(0, 0, 0, 0, 0);
        int refused = x.count(6) + x.count(7) + x.count(8) + x.count(10);
        due(35, "back(0)", x.back(0), 0);
        due(35, "nothing can be undone", x.count(4), 0);
        due(35, "undo()", x.undo(), -3);
        due(35, "the TAPE stays", x.count(5), 20);
        due(35, "ASH stays", x.ash(), 4);
        due(35, "FAULT stays", x.fault(), 1);
        due(35, "where ORDERS stopped stays", x.stopped(), 1);
        due(35, "the latest DAYS stay", x.drawn(0, 0), 11);
        due(35, "how many were REFUSED stays", x.count(6) + x.count(7) + x.count(8) + x.count(10), refused + 1);
        due(35, "FIRE", x.of(0, 5), 4);
    }

    private static void twoImages() {
        SmokeTune x = new SmokeTune();
        x.image(0);
        x.house(0, 0, 9, 0, 0);
        x.image(1);
        x.house(0, 0, 9, 1, 0);
        due(35, "back(0)", x.back(0), 0);
        due(35, "count(0)", x.count(0), 0);
        due(35, "back(1)", x.back(1), 0);
        due(35, "count(0)", x.count(0), 1);
        x.stoke(0);
        x.image(0);
        x.back(1);
        due(35, "FIRE of IMAGE 1", x.of(0, 5), 0);
        x.back(0);
        due(35, "FIRE of IMAGE 0, kept anew", x.of(0, 5), 4);
        x.pass();
        x.back(0);
        due(35, "what is done behind back() leaves the IMAGE", x.of(0, 5), 4);
    }

    private static void counts() {
        SmokeTune x = new SmokeTune();
        for (int what : new int[] {-1, 19, Integer.MIN_VALUE, Integer.MAX_VALUE}) {
            due(36, "count(" + what + ")", x.count(what), -1);
        }
        x.house(0, 0, 9, 0, 0);
        x.house(0, 0, 9, 1, 0);
        x.stoke(0);
        x.hear(1);
        law(x, "bars");
        x.feed(0, 0, 0, 0, 0);
        x.force(0);
        x.terms(0, 7);
        x.terms(1, 8);
        x.terms(2, 2);
        x.terms(3, 9);
        x.terms(4, 5);
        x.terms(5, 6);
        x.pass();
        long[] counts = {2, 1, 1, 1, 1, 20, 0, 0, 0, 0, 0, 0, 0, 8, 8, 2, 9, 5, 6};
        for (int i = 0; i < counts.length; i++) {
            due(36, "count(" + i + ")", x.count(i), counts[i]);
        }
    }

    private static void refusals() {
        SmokeTune x = new SmokeTune();
        x.score(24, 0);
        x.stoke(0);
        x.force(9);
        x.undo();
        x.undo();
        x.undo();
        for (int i = 0; i < 10; i++) {
            x.hear(1);
        }
        x.row();
        x.law();
        x.orders();
        x.orders();
        x.row();
        x.of(9, 9);
        x.end(9);
        x.rings(9);
        x.least(9, 9, 9, 9);
        x.chance(999);
        long[] refused = {1, 2, 3, 4, 5};
        for (int i = 0; i < 5; i++) {
            due(36, "count(" + (6 + i) + ")", x.count(6 + i), refused[i]);
        }
    }

    private static void statusOfCalls() {
        SmokeTune x = new SmokeTune();
        x.house(9, 0, 0, 0, 0);
        due(37, "status() of house()", x.status(), -1);
        x.house(0, 0, 5, 0, 0);
        due(37, "status() of house()", x.status(), 0);
        x.score(99, 0);
        due(37, "status() of score()", x.status(), -1);
        x.score(0, 0);
        due(37, "status() of score()", x.status(), 0);
        x.terms(9, 9);
        due(37, "status() of terms()", x.status(), -1);
        x.terms(0, 0);
        due(37, "status() of terms()", x.status(), 0);
        x.row();
        due(37, "status() of row()", x.status(), -6);
        x.pass();
        due(37, "status() of pass()", x.status(), 0);
        x.law();
        due(37, "status() of law()", x.status(), -6);
        law(x, "bars if 1=2");
        due(37, "status() of law()", x.status(), 0);
        x.orders();
        due(37, "status() of orders()", x.status(), -6);
        orders(x, "pass");
        due(37, "status() of orders()", x.status(), 0);
        orders(x, "stoke 5");
        due(37, "status() of orders() that can't be", x.status(), -3);
        x.force(0);
        due(37, "status() of force()", x.status(), 0);
        x.force(1);
        due(37, "status() of force()", x.status(), -2);
        x.force(-1);
        due(37, "status() of force()", x.status(), 0);
        x.stoke(3);
        due(37, "status() of stoke()", x.status(), -2);
        x.stoke(0);
        due(37, "status() of stoke()", x.status(), 0);
        x.damp(0, 99);
        due(37, "status() of damp()", x.status(), -1);
        x.damp(0, 9);
        due(37, "status() of damp()", x.status(), 0);
        x.buy(4, 9);
        due(37, "status() of buy()", x.status(), -2);
        x.buy(0, 9);
        due(37, "status() of buy()", x.status(), 0);
        x.hear(999);
        due(37, "status() of hear()", x.status(), -1);
        x.hear(9);
        due(37, "status() of hear()", x.status(), 0);
        x.days(0, 0);
        due(37, "status() of days()", x.status(), -1);
        x.days(0, 1);
        due(37, "status() of days()", x.status(), 0);
        x.image(5);
        due(37, "status() of image()", x.status(), -1);
        x.image(0);
        due(37, "status() of image()", x.status(), 0);
        x.back(1);
        due(37, "status() of back()", x.status(), -2);
        x.undo();
        due(37, "status() of undo()", x.status(), 0);
        x.back(1);
        x.back(0);
        due(37, "status() of back()", x.status(), 0);
        x.undo();
        due(37, "status() of undo()", x.status(), -3);
    }

    private static void statusIsNotTouched() {
        SmokeTune x = new SmokeTune();
        x.house(0, 0, 5, 0, 0);
        x.stoke(9);
        x.of(0, 0);
        x.chord(0);
        x.feed(0, 0, 0, 0, 0);
        x.end(0);
        x.ash();
        x.fault();
        x.stopped();
        x.discord();
        x.sounds(0);
        x.least(0, 1, 1, -1);
        x.rings(0);
        x.tune(0, 0);
        x.forget();
        x.hill(-1);
        x.ask(0);
        x.chance(0);
        x.compare(-1, 1);
        x.drawn(0, 0);
        x.count(0);
        due(37, "status() behind calls that are not told of", x.status(), -2);
        due(37, "status() again", x.status(), -2);
    }
}
