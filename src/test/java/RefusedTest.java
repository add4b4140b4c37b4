import java.util.ArrayList;
import java.util.List;
import java.util.function.Consumer;
import java.util.function.Supplier;
import java.util.function.ToLongFunction;

/**
 * Calls that are REFUSED, or answer NONE, or only ask: the answer, what is counted and told of it, and that all else is as it was.
 * A town that had the call is held against a twin that had not, seen in several ways, each time made anew.
 */
public final class RefusedTest {
    private static final int MIN = Integer.MIN_VALUE;
    private static final int MAX = Integer.MAX_VALUE;
    private static final int[] BY = {-1, -2, -3, -5, -6};
    private static final List<Consumer<View>> VIEWS = List.of(RefusedTest::asItIs, RefusedTest::allUndone, v -> goneBack(v, 0),
        v -> goneBack(v, 1), RefusedTest::tapeAsRow, RefusedTest::tapeAsLaw, RefusedTest::tapeAsOrders, RefusedTest::goingOn);
    private static int wrong = 0;
    private static int cases = 0;

    /** What is seen of a town, told line by line. */
    private static final class View {
        final SmokeTune x;
        final List<String> lines = new ArrayList<>();

        View(SmokeTune x) {
            this.x = x;
        }

        void see(String call, long answer) {
            lines.add(call + " = " + answer);
        }
    }

    public static void main(String[] args) {
        List<Supplier<SmokeTune>> worlds = List.of(SmokeTune::new, RefusedTest::busy, RefusedTest::full);
        String[] names = {"empty", "busy", "full"};
        for (int i = 0; i < names.length; i++) {
            badNumbers(names[i], worlds.get(i));
            noSuch(names[i], worlds.get(i));
            rowsOfNothing(names[i], worlds.get(i));
            ordersThatCannotBe(names[i], worlds.get(i));
            noAnswers(names[i], worlds.get(i));
            askingAlone(names[i], worlds.get(i));
        }
        lawsThatCannotBe("empty", worlds.get(0));
        lawsThatCannotBe("busy", worlds.get(1));
        cannotByWhatStands();
        noRoom();
        theWorldsAreAsMeant();
        System.out.println(wrong == 0 ? "RefusedTest: " + cases + " calls leave all as it was" : "RefusedTest: " + wrong + " wrong");
        if (wrong != 0) {
            System.exit(1);
        }
    }

    private static void due(String call, long got, long want) {
        if (got != want) {
            wrong++;
            System.out.println(call + " answered " + got + ", due is " + want);
        }
    }

    private static void put(SmokeTune x, String text) {
        x.end(0);
        for (int i = 0; i < text.length(); i += 20) {
            int[] five = new int[5];
            for (int k = 0; k < 20; k++) {
                five[k / 4] = five[k / 4] << 8 | (i + k < text.length() ? text.charAt(i + k) : 0);
            }
            x.feed(five[0], five[1], five[2], five[3], five[4]);
        }
        x.end(text.length());
    }

    private static int law(SmokeTune x, String text) {
        put(x, text);
        return x.law();
    }

    private static int orders(SmokeTune x, String text) {
        put(x, text);
        return x.orders();
    }

    /** Some of all; what is refused last, and what is told of it, is -3. House 1 has no coal, house 4 is barred, image 1 is not kept. */
    private static SmokeTune busy() {
        SmokeTune x = new SmokeTune();
        x.house(0, 0, 9, 0, 4);
        x.house(1, 0, 1, 1, 0);
        x.house(6, 1, 30, 2, 2);
        x.hear(1);
        x.stoke(0);
        x.score(7, 3);
        law(x, "burns 2 if fire>5;flares 5;bars if house=4");
        x.image(0);
        x.house(0, 1, 999, 3, 1);
        x.house(3, 2, 5, 5, 7);
        x.hear(64);
        law(x, "fines 7;burns 3");
        x.force(0);
        x.score(6, 5);
        x.terms(0, 5);
        x.terms(4, 4);
        x.terms(5, 2);
        x.stoke(1);
        x.damp(0, 1);
        x.stoke(2);
        x.stoke(3);
        x.buy(4, 7);
        x.pass();
        x.stoke(2);
        x.days(7, 10);
        put(x, "\u0001\u0081\u0002\u0082");
        x.row();
        orders(x, "pass;stoke 7");
        law(x, "bars ?");
        x.terms(0, 24);
        x.stoke(5);
        x.force(9);
        x.undo();
        x.stoke(2);
        x.stoke(1);
        put(x, "pass;pass");
        return x;
    }

    /** All that there can be at most; the last hour of the last day; more done than is kept; what is told is 0. */
    private static SmokeTune full() {
        SmokeTune x = new SmokeTune();
        for (int h = 0; h < 8; h++) {
            x.house(h % 7, h % 2, 100 + h, 7 - h, h / 2);
        }
        for (int i = 0; i < 6; i++) {
            law(x, "burns " + i + ";flares " + (9 - i) + ";fines " + (i + 3));
            x.hear(1 << i);
        }
        x.force(3);
        x.terms(1, 999);
        x.terms(0, 20);
        x.score(23, 127);
        x.stoke(0);
        x.image(0);
        orders(x, "stoke 6;stoke 1;stoke 7;pass;stoke 0;stoke 6;pass;stoke 4;buy 5 by 100;pass");
        orders(x, "stoke 2 times 9;damp 7 by 3");
        x.image(1);
        x.days(3, 9);
        x.damp(2, 2);
        put(x, "\u0003\u00ff");
        x.row();
        law(x, "bars if");
        orders(x, "pass");
        x.score(22, 5);
        put(x, "bars" + " ".repeat(396));
        return x;
    }

    private static void asItIs(View v) {
        SmokeTune x = v.x;
        for (int what = -1; what <= 19; what++) {
            if (what < 6 || what > 10) {
                v.see("count(" + what + ")", x.count(what));
            }
        }
        v.see("ash()", x.ash());
        v.see("fault()", x.fault());
        v.see("stopped()", x.stopped());
        v.see("discord()", x.discord());
        for (int h = 0; h < 8; h++) {
            for (int what = 0; what <= 10; what++) {
                v.see("of(" + h + ", " + what + ")", x.of(h, what));
            }
            v.see("drawn(" + h + ", 0)", x.drawn(h, 0));
            v.see("drawn(" + h + ", 1)", x.drawn(h, 1));
            v.see("rings(" + h + ")", x.rings(h));
            v.see("least(" + h + ", 4, 6, -1)", x.least(h, 4, 6, -1));
            v.see("tune(1, " + (1 + h) + ")", x.tune(1, 1 + h));
        }
        v.see("drawn(0, 2)", x.drawn(0, 2));
        for (int hour = 0; hour < 24; hour++) {
            v.see("chord(" + hour + ")", x.chord(hour));
        }
        for (int what = 0; what < 3; what++) {
            v.see("sounds(" + what + ")", x.sounds(what));
            v.see("hill(" + (what - 1) + ")", x.hill(what - 1));
            v.see("ask(" + what + ")", x.ask(what));
            v.see("chance(" + (1 << what) + ")", x.chance(1 << what));
        }
        for (int law = -1; law < 6; law++) {
            v.see("compare(" + law + ", 30)", x.compare(law, 30));
        }
    }

    private static void allUndone(View v) {
        for (int i = 0; i < 17; i++) {
            v.see("undo()", v.x.undo());
        }
        asItIs(v);
    }

    private static void goneBack(View v, int k) {
        v.see("back(" + k + ")", v.x.back(k));
        asItIs(v);
    }

    private static void tapeAsRow(View v) {
        v.see("row()", v.x.row());
        v.see("ash()", v.x.ash());
        for (int hour = 0; hour < 24; hour++) {
            v.see("chord(" + hour + ")", v.x.chord(hour));
        }
    }

    private static void tapeAsLaw(View v) {
        v.see("law()", v.x.law());
        v.see("fault()", v.x.fault());
        v.see("force()", v.x.force(v.x.count(3) - 1));
        asItIs(v);
    }

    private static void tapeAsOrders(View v) {
        v.see("orders()", v.x.orders());
        asItIs(v);
    }

    private static void goingOn(View v) {
        v.see("hear(3)", v.x.hear(3));
        v.see("stoke(0)", v.x.stoke(0));
        v.see("pass()", v.x.pass());
        v.see("undo()", v.x.undo());
        v.see("days(3, 30)", v.x.days(3, 30));
        v.see("image(1)", v.x.image(1));
        v.see("terms(1, 5)", v.x.terms(1, 5));
        v.see("house(4, 1, 7, 6, 3)", v.x.house(4, 1, 7, 6, 3));
        v.see("pass()", v.x.pass());
        asItIs(v);
    }

    /** The call is REFUSED by that (0: by nothing, it only asks), and all else is as if the twin did what it does instead. */
    private static void held(String told, Supplier<SmokeTune> world, ToLongFunction<SmokeTune> call, int by, Consumer<SmokeTune> instead, String... but) {
        cases++;
        SmokeTune x = world.get();
        int before = x.status();
        int[] counts = new int[BY.length];
        for (int i = 0; i < BY.length; i++) {
            counts[i] = x.count(6 + i);
        }
        long answer = call.applyAsLong(x);
        if (by != 0) {
            due(told, answer, by);
        }
        due(told + ": status()", x.status(), by != 0 ? by : before);
        for (int i = 0; i < BY.length; i++) {
            due(told + ": count(" + (6 + i) + ")", x.count(6 + i), counts[i] + (BY[i] == by ? 1 : 0));
        }
        for (Consumer<View> view : VIEWS) {
            View had = new View(world.get());
            call.applyAsLong(had.x);
            View twin = new View(world.get());
            instead.accept(twin.x);
            view.accept(had);
            view.accept(twin);
            same(told, had.lines, twin.lines, List.of(but));
        }
    }

    private static void same(String told, List<String> had, List<String> twin, List<String> but) {
        for (int i = 0; i < had.size(); i++) {
            String call = had.get(i).substring(0, had.get(i).indexOf(" = "));
            if (!had.get(i).equals(twin.get(i)) && !but.contains(call)) {
                wrong++;
                System.out.println("behind " + told + ": " + had.get(i) + ", without it " + twin.get(i));
                return;
            }
        }
    }

    private static void refused(String told, Supplier<SmokeTune> world, ToLongFunction<SmokeTune> call, int by) {
        held(told, world, call, by, x -> { });
    }

    private static void badNumbers(String name, Supplier<SmokeTune> world) {
        int[][] houses = {{-1, 0, 0, 6, 0}, {7, 0, 0, 6, 0}, {0, -1, 0, 6, 0}, {0, 4, 0, 6, 0}, {0, 0, -1, 6, 0}, {0, 0, 1000, 6, 0}, {0, 0, 0, -1, 0},
            {0, 0, 0, 8, 0}, {0, 0, 0, 6, -1}, {0, 0, 0, 6, 8}, {MIN, MIN, MIN, MIN, MIN}, {MAX, MAX, MAX, MAX, MAX}};
        for (int[] a : houses) {
            refused(name + ": house(" + a[0] + ", " + a[1] + ", " + a[2] + ", " + a[3] + ", " + a[4] + ")", world, x -> x.house(a[0], a[1], a[2], a[3], a[4]), -1);
        }
        int[][] scores = {{-1, 1}, {24, 1}, {7, -1}, {7, 128}, {MIN, 1}, {MAX, 1}, {7, MIN}, {7, MAX}};
        for (int[] a : scores) {
            refused(name + ": score(" + a[0] + ", " + a[1] + ")", world, x -> x.score(a[0], a[1]), -1);
        }
        int[][] terms = {{0, -1}, {0, 24}, {1, -1}, {1, 1000}, {2, 0}, {2, 21}, {3, 0}, {3, 21}, {4, -1}, {4, 11}, {5, -1}, {5, 10}, {-1, 1}, {6, 1}, {MIN, 1},
            {MAX, 1}, {0, MIN}, {1, MAX}};
        for (int[] a : terms) {
            refused(name + ": terms(" + a[0] + ", " + a[1] + ")", world, x -> x.terms(a[0], a[1]), -1);
        }
        for (int by : new int[] {0, -1, 21, MIN, MAX}) {
            refused(name + ": damp(0, " + by + ")", world, x -> x.damp(0, by), -1);
            refused(name + ": damp(8, " + by + ")", world, x -> x.damp(8, by), -1);
        }
        for (int coal : new int[] {0, -1, 1000, MIN, MAX}) {
            refused(name + ": buy(0, " + coal + ")", world, x -> x.buy(0, coal), -1);
            refused(name + ": buy(-1, " + coal + ")", world, x -> x.buy(-1, coal), -1);
        }
        for (int notes : new int[] {-1, 128, MIN, MAX}) {
            refused(name + ": hear(" + notes + ")", world, x -> x.hear(notes), -1);
        }
        int[][] days = {{-1, 1}, {1_000_001, 1}, {0, 0}, {0, 101}, {0, -1}, {MIN, 1}, {MAX, 1}, {0, MIN}, {0, MAX}};
        for (int[] a : days) {
            refused(name + ": days(" + a[0] + ", " + a[1] + ")", world, x -> x.days(a[0], a[1]), -1);
        }
        for (int k : new int[] {-1, 2, MIN, MAX}) {
            refused(name + ": image(" + k + ")", world, x -> x.image(k), -1);
            refused(name + ": back(" + k + ")", world, x -> x.back(k), -1);
        }
    }

    private static void noSuch(String name, Supplier<SmokeTune> world) {
        int houses = world.get().count(0);
        for (int h : new int[] {-1, houses, 8, MIN, MAX}) {
            refused(name + ": stoke(" + h + ")", world, x -> x.stoke(h), -2);
            refused(name + ": damp(" + h + ", 1)", world, x -> x.damp(h, 1), -2);
            refused(name + ": damp(" + h + ", 20)", world, x -> x.damp(h, 20), -2);
            refused(name + ": buy(" + h + ", 1)", world, x -> x.buy(h, 1), -2);
            refused(name + ": buy(" + h + ", 999)", world, x -> x.buy(h, 999), -2);
        }
        int laws = world.get().count(3);
        for (int law : new int[] {-2, laws, 6, MIN, MAX}) {
            refused(name + ": force(" + law + ")", world, x -> x.force(law), -2);
        }
        if (!name.equals("full")) {
            refused(name + ": back(1)", world, x -> x.back(1), -2);
        }
        if (name.equals("empty")) {
            refused(name + ": back(0)", world, x -> x.back(0), -2);
        }
    }

    private static void rowsOfNothing(String name, Supplier<SmokeTune> world) {
        Supplier<SmokeTune> emptied = () -> {
            SmokeTune x = world.get();
            x.end(0);
            return x;
        };
        refused(name + ": row() of an empty TAPE", emptied, x -> x.row(), -6);
    }

    /** Texts that can't be read, or run; the TAPE is empty then, FAULT and where they stopped are told. */
    private static void ordersThatCannotBe(String name, Supplier<SmokeTune> world) {
        String[] texts = {"", "   ", "stoke", "pass;", "pass;pass ?", "pass times 0", "pass times 21", "buy 0 by 1 times 20;stoke 1001", "burns 1"};
        int[] faults = {0, 3, 5, 5, 10, 11, 11, 26, 0};
        for (int i = 0; i < texts.length; i++) {
            unread(name, world, texts[i], false, faults[i]);
        }
        String last = name.equals("full") ? "" : "pass times 20;";
        String[] cannot = {"stoke 8", last + "stoke 0-1", last + "damp 8 by 1", last + "damp 0 by 0", last + "damp 0 by 21", last + "buy 8 by 1",
            last + "buy 0 by 0", last + "buy 0 by 1000", last + "stoke 1/0", last + "buy 1000*1000*1000+1 by 1", last + "damp 0 by 1%0"};
        for (String text : cannot) {
            stopped(name, world, text, text.contains(";") ? 1 : 0);
        }
        if (name.equals("busy")) {
            stopped(name, world, "stoke 0;buy 1 by 5;stoke 1 times 5;pass times 3;stoke 4", 4);
            stopped(name, world, "pass times 2;damp 2 by 1 times 20;stoke 1;stoke 1 if done>22", 2);
            stopped(name, world, "stoke 2 times 20;buy 2 by 1 times 20;stoke 2 times 20;stoke 2 if fire 2<0;damp 2 by done", 4);
        }
        if (name.equals("full")) {
            stopped(name, world, "buy 0 by 1 times 20;damp 0 by 1 times 20;stoke 0 times 5;pass", 3);
            stopped(name, world, "stoke 7 times 20;stoke 7 times 20;stoke 7 times 20;stoke 7 times 20;stoke 7 times 20;stoke 7 times 20", 5);
        }
    }

    private static Supplier<SmokeTune> fed(Supplier<SmokeTune> world, String text) {
        return () -> {
            SmokeTune x = world.get();
            put(x, text);
            return x;
        };
    }

    private static void unread(String name, Supplier<SmokeTune> world, String text, boolean asLaw, int fault) {
        String told = name + (asLaw ? ": law() of '" : ": orders() of '") + text + "'";
        ToLongFunction<SmokeTune> call = asLaw ? SmokeTune::law : SmokeTune::orders;
        held(told, fed(world, text), call, -6, x -> x.end(0), asLaw ? new String[] {"fault()"} : new String[] {"fault()", "stopped()"});
        SmokeTune x = fed(world, text).get();
        call.applyAsLong(x);
        due(told + ": fault()", x.fault(), fault);
        due(told + ": count(5)", x.count(5), 0);
        if (!asLaw) {
            due(told + ": stopped()", x.stopped(), -1);
        }
    }

    private static void stopped(String name, Supplier<SmokeTune> world, String text, int clause) {
        String told = name + ": orders() of '" + text + "'";
        held(told, fed(world, text), SmokeTune::orders, -3, x -> x.end(0), "fault()", "stopped()");
        SmokeTune x = fed(world, text).get();
        x.orders();
        due(told + ": fault()", x.fault(), -1);
        due(told + ": stopped()", x.stopped(), clause);
        due(told + ": count(5)", x.count(5), 0);
    }

    private static void lawsThatCannotBe(String name, Supplier<SmokeTune> world) {
        String[] texts = {"", " ", "burns", "bars;", "bars 1", "burns 1001", "bars" + ";bars".repeat(12), "burns 1" + "+1".repeat(50),
            "burns " + "[".repeat(9) + "1" + "]".repeat(9), "stoke 1", "bars" + " ".repeat(395) + ";"};
        int[] faults = {0, 1, 5, 5, 5, 6, 60, 106, 14, 0, 400};
        for (int i = 0; i < texts.length; i++) {
            unread(name, world, texts[i], true, faults[i]);
        }
    }

    private static void cannotByWhatStands() {
        for (int d : new int[] {0, 1, 2, 3, 5}) {
            refused("busy: house with DINNER " + d, RefusedTest::busy, x -> x.house(1, 1, 1, d, 1), -3);
        }
        for (int d = 0; d < 8; d++) {
            int dinner = d;
            refused("full: house with DINNER " + d, RefusedTest::full, x -> x.house(1, 1, 1, dinner, 1), -3);
        }
        refused("busy: stoke(1) without COAL", RefusedTest::busy, x -> x.stoke(1), -3);
        refused("busy: stoke(4) BARRED", RefusedTest::busy, x -> x.stoke(4), -3);
        refused("full: pass() behind the last DAY", RefusedTest::full, SmokeTune::pass, -3);
        refused("empty: undo()", SmokeTune::new, SmokeTune::undo, -3);
        Supplier<SmokeTune> termed = () -> {
            SmokeTune x = busy();
            x.terms(5, 2);
            return x;
        };
        refused("busy: undo() behind terms()", termed, SmokeTune::undo, -3);
        Supplier<SmokeTune> housed = () -> {
            SmokeTune x = busy();
            x.house(4, 3, 1, 7, 1);
            return x;
        };
        refused("busy: undo() behind house()", housed, SmokeTune::undo, -3);
        Supplier<SmokeTune> gone = () -> {
            SmokeTune x = full();
            x.back(1);
            return x;
        };
        refused("full: undo() behind back()", gone, SmokeTune::undo, -3);
        Supplier<SmokeTune> undone = () -> {
            SmokeTune x = full();
            for (int i = 0; i < 16; i++) {
                x.undo();
            }
            return x;
        };
        refused("full: undo() behind 16", undone, SmokeTune::undo, -3);
    }

    private static void noRoom() {
        for (int notes : new int[] {0, 1, 127}) {
            refused("full: hear(" + notes + ")", RefusedTest::full, x -> x.hear(notes), -5);
        }
        for (String text : new String[] {"", "bars", "?", "   "}) {
            held("full: law() of '" + text + "'", fed(RefusedTest::full, text), SmokeTune::law, -5, x -> x.end(0));
        }
    }

    private static void none(String told, Supplier<SmokeTune> world, ToLongFunction<SmokeTune> call) {
        due(told, call.applyAsLong(world.get()), -1);
        held(told, world, call, 0, x -> { });
    }

    private static void noAnswers(String name, Supplier<SmokeTune> world) {
        int houses = world.get().count(0);
        for (int h : new int[] {-1, houses, 8, MIN, MAX}) {
            none(name + ": of(" + h + ", 0)", world, x -> x.of(h, 0));
            none(name + ": of(" + h + ", 10)", world, x -> x.of(h, 10));
            none(name + ": rings(" + h + ")", world, x -> x.rings(h));
            none(name + ": least(" + h + ", 1, 1, -1)", world, x -> x.least(h, 1, 1, -1));
        }
        for (int n : new int[] {-1, 0, 13, 32, MIN, MAX}) {
            none(name + ": least(0, " + n + ", 0, -1)", world, x -> x.least(0, n, 0, -1));
        }
        for (int what : new int[] {-1, 11, MIN, MAX}) {
            none(name + ": of(0, " + what + ")", world, x -> x.of(0, what));
        }
        for (int hour : new int[] {-1, 24, MIN, MAX}) {
            none(name + ": chord(" + hour + ")", world, x -> x.chord(hour));
        }
        for (int street : new int[] {-1, 4, MIN, MAX}) {
            none(name + ": tune(" + street + ", 0)", world, x -> x.tune(street, 0));
        }
        for (int what : new int[] {-1, houses + 1, 9, MIN, MAX}) {
            none(name + ": tune(0, " + what + ")", world, x -> x.tune(0, what));
        }
        for (int what : new int[] {-1, 3, MIN, MAX}) {
            none(name + ": sounds(" + what + ")", world, x -> x.sounds(what));
            none(name + ": ask(" + what + ")", world, x -> x.ask(what));
            none(name + ": drawn(0, " + what + ")", world, x -> x.drawn(0, what));
            none(name + ": drawn(" + (what < 0 ? what : what + 8) + ", 0)", world, x -> x.drawn(what < 0 ? what : what + 8, 0));
        }
        for (int notes : new int[] {-1, 128, MIN, MAX}) {
            none(name + ": chance(" + notes + ")", world, x -> x.chance(notes));
        }
        for (int n : new int[] {-1, 0, 61, MIN, MAX}) {
            none(name + ": compare(-1, " + n + ")", world, x -> x.compare(-1, n));
        }
        for (int law : new int[] {-2, world.get().count(3), 6, MIN, MAX}) {
            none(name + ": compare(" + law + ", 1)", world, x -> x.compare(law, 1));
        }
        for (int i : new int[] {-2, 256, MIN, MAX}) {
            none(name + ": hill(" + i + ")", world, x -> x.hill(i));
        }
        for (int what : new int[] {-1, 19, MIN, MAX}) {
            none(name + ": count(" + what + ")", world, x -> x.count(what));
        }
        for (int n : new int[] {-1, world.get().count(5) + 1, 401, MIN, MAX}) {
            none(name + ": end(" + n + ")", world, x -> x.end(n));
        }
        if (name.equals("full")) {
            none(name + ": feed beyond 400", world, x -> x.feed(1, 2, 3, 4, 5));
            Supplier<SmokeTune> less = () -> {
                SmokeTune x = world.get();
                x.end(381);
                return x;
            };
            none(name + ": feed beyond 400 by one", less, x -> x.feed(1, 2, 3, 4, 5));
        }
        if (name.equals("empty")) {
            none(name + ": ask(0)", world, x -> x.ask(0));
            none(name + ": drawn(0, 2)", world, x -> x.drawn(0, 2));
        }
    }

    private static void asks(String told, Supplier<SmokeTune> world, ToLongFunction<SmokeTune> call) {
        held(told, world, call, 0, x -> { });
    }

    private static void askingAlone(String name, Supplier<SmokeTune> world) {
        for (int i = 0; i <= 10; i++) {
            int what = i;
            asks(name + ": of(0, " + what + ")", world, x -> x.of(0, what));
            asks(name + ": tune(1, " + what + ")", world, x -> x.tune(1, what));
            asks(name + ": count(" + what + ")", world, x -> x.count(what));
        }
        asks(name + ": discord()", world, x -> x.discord());
        asks(name + ": sounds(2)", world, x -> x.sounds(2));
        asks(name + ": least(0, 12, 4095, -1)", world, x -> x.least(0, 12, 4095, -1));
        asks(name + ": least(2, 12, 7, 11)", world, x -> x.least(2, 12, 7, 11));
        asks(name + ": rings(0)", world, x -> x.rings(0));
        asks(name + ": hill(-1)", world, x -> x.hill(-1));
        asks(name + ": hill(0)", world, x -> x.hill(0));
        asks(name + ": ask(0)", world, x -> x.ask(0));
        asks(name + ": ask(1)", world, x -> x.ask(1));
        asks(name + ": chance(127)", world, x -> x.chance(127));
        asks(name + ": compare(-1, 60)", world, x -> x.compare(-1, 60));
        asks(name + ": compare(0, 60)", world, x -> x.compare(0, 60));
        asks(name + ": drawn(0, 2)", world, x -> x.drawn(0, 2));
        asks(name + ": chord(0)", world, x -> x.chord(0));
        asks(name + ": ash()", world, x -> x.ash());
        asks(name + ": fault()", world, x -> x.fault());
        asks(name + ": stopped()", world, x -> x.stopped());
        asks(name + ": status()", world, x -> x.status());
        asks(name + ": end(count(5))", world, x -> x.end(x.count(5)));
    }

    /** So that no world is less than it is told to be. */
    private static void theWorldsAreAsMeant() {
        SmokeTune x = busy();
        long[] counts = {5, 3, 2, 2, 7, 9, 1, 2, 2, 0, 1, 0, 2, 6, 0, 3, 12, 4, 2};
        for (int i = 0; i < counts.length; i++) {
            due("busy: count(" + i + ")", x.count(i), counts[i]);
        }
        due("busy: COAL of 1", x.of(1, 2), 0);
        due("busy: BARRED 4", x.of(4, 10), 1);
        due("busy: status()", x.status(), -3);
        due("busy: ash()", x.ash(), 2);
        due("busy: fault()", x.fault(), 5);
        due("busy: stopped()", x.stopped(), 1);
        SmokeTune y = full();
        long[] most = {8, 3, 6, 6, 16, 400, 0, 0, 1, 1, 0, 3, 30, 23, 999, 3, 12, 3, 0};
        for (int i = 0; i < most.length; i++) {
            due("full: count(" + i + ")", y.count(i), most[i]);
        }
        due("full: discord()", y.discord(), 6);
        due("full: status()", y.status(), 0);
    }
}
