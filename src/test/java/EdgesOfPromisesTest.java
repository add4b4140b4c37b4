import java.io.IOException;
import java.nio.file.Files;
import java.nio.file.Path;
import java.nio.file.Paths;

/** The edges that promises 1 to 37 name, each under the words that name it: too small, too large, empty, full, around, REFUSED. */
public final class EdgesOfPromisesTest {
    private static final Path DOCUMENT = Paths.get("../shared/DOC.md");
    private static final int MIN = Integer.MIN_VALUE;
    private static final int MAX = Integer.MAX_VALUE;
    private static String document = "";
    private static String words = "";
    private static int wrong = 0;

    public static void main(String[] args) throws IOException {
        document = Files.exists(DOCUMENT) ? Files.readString(DOCUMENT).replaceAll("\\s+", " ") : "";
        newObject();
        house();
        of();
        scoreAndChord();
        terms();
        feed();
        end();
        rowAndAsh();
        law();
        orders();
        fault();
        stopped();
        force();
        discord();
        soundingNotes();
        thirds();
        stokeDampBuy();
        pass();
        undoKept();
        undoAroundTheKept();
        undoBringsBack();
        undoNoMore();
        least();
        ringsAndTune();
        hearAndForget();
        hillAndAsk();
        chanceAndCompare();
        days();
        drawn();
        imageAndBack();
        imagesOfNothing();
        count();
        refusalsCounted();
        status();
        System.out.println(wrong == 0 ? "EdgesOfPromisesTest: all answers are as due" : "EdgesOfPromisesTest: " + wrong + " wrong");
        if (wrong != 0) {
            System.exit(1);
        }
    }

    /** The words of the document that the next answers are due by. */
    private static void by(String told) {
        words = told;
        if (!document.isEmpty() && !document.contains(told)) {
            wrong++;
            System.out.println("the document does not say '" + told + "'");
        }
    }

    private static void due(String call, long got, long want) {
        if (got != want) {
            wrong++;
            System.out.println("'" + words + "': " + call + " answered " + got + ", due is " + want);
        }
    }

    private static void put(SmokeTune x, String text) {
        x.end(0);
        for (int i = 0; i < text.length(); i += 20) {
            int[] five = new int[5];
            for (int k = 0; k < 20; k++) {
                five[k / 4] = five[k / 4] << 8 | (i + k < text.length() ? text.charAt(i + k) : 0);
            }
            x.feed(five[0], five[1], five[2], five[3], five[4]);
        }
        x.end(text.length());
    }

    private static int law(SmokeTune x, String text) {
        put(x, text);
        return x.law();
    }

    private static int orders(SmokeTune x, String text) {
        put(x, text);
        return x.orders();
    }

    /** Houses with notes 0, 1 .. around, all in street 0, with coal 100. */
    private static SmokeTune town(int houses) {
        SmokeTune x = new SmokeTune();
        for (int h = 0; h < houses; h++) {
            x.house(h % 7, 0, 100, h, h);
        }
        return x;
    }

    private static void newObject() {
        by("A town without houses.");
        SmokeTune x = new SmokeTune();
        long[] counts = {0, 0, 0, 0, 0, 0, 0, 0, 0, 0, 0, -1, 0, 0, 0, 3, 12, 3, 0};
        for (int i = 0; i < counts.length; i++) {
            due("count(" + i + ")", x.count(i), counts[i]);
        }
        for (int what = 0; what <= 10; what++) {
            due("of(0, " + what + ")", x.of(0, what), -1);
        }
        due("ash()", x.ash(), 0);
        due("fault()", x.fault(), -1);
        due("stopped()", x.stopped(), -1);
        due("status()", x.status(), 0);
        due("discord()", x.discord(), 0);
        due("sounds(0)", x.sounds(0), 0);
        due("sounds(1)", x.sounds(1), 0);
        due("sounds(2)", x.sounds(2), 1);
        due("least(0, 1, 0, -1)", x.least(0, 1, 0, -1), -1);
        due("rings(0)", x.rings(0), -1);
        due("tune(0, 0)", x.tune(0, 0), 0);
        due("tune(3, 0)", x.tune(3, 0), 0);
        due("tune(0, 1)", x.tune(0, 1), -1);
        due("hill(-1)", x.hill(-1), 1);
        due("hill(0)", x.hill(0), 0);
        due("hill(1)", x.hill(1), -1);
        due("ask(0)", x.ask(0), -1);
        due("ask(1)", x.ask(1), -1);
        due("chance(0)", x.chance(0), 1_000_000_000_000L);
        due("chance(1)", x.chance(1), 0);
        due("chance(127)", x.chance(127), 0);
        due("compare(-1, 60)", x.compare(-1, 60), 0);
        due("compare(0, 60)", x.compare(0, 60), -1);
        for (int what = 0; what <= 2; what++) {
            due("drawn(0, " + what + ")", x.drawn(0, what), -1);
        }
        due("forget()", x.forget(), 0);
        due("end(0)", x.end(0), 0);
        due("end(1)", x.end(1), -1);
        due("row()", x.row(), -6);
        due("undo()", x.undo(), -3);
        due("back(0)", x.back(0), -2);
        due("back(1)", x.back(1), -2);
        due("force(-1)", x.force(-1), -1);
        due("pass()", x.pass(), 1);
        due("HOUR", x.count(13), 1);
    }

    private static void house() {
        by("A HOUSE: its number. -1; -3 its DINNER is another one's; -5.");
        SmokeTune x = new SmokeTune();
        due("house(0, 0, 0, 0, 0)", x.house(0, 0, 0, 0, 0), 0);
        due("house(6, 3, 999, 7, 7)", x.house(6, 3, 999, 7, 7), 1);
        due("a DINNER that is another one's", x.house(0, 0, 0, 7, 0), -3);
        due("a DINNER that is another one's", x.house(0, 0, 0, 0, 0), -3);
        due("the number of the next", x.house(0, 0, 0, 6, 0), 2);
        due("alike but for the DINNER", x.house(0, 0, 0, 5, 0), 3);
        for (int d = 1; d <= 4; d++) {
            due("up to eight", x.house(0, 0, 0, d, 0), 3 + d);
        }
        due("a ninth", x.house(0, 0, 0, 4, 0), -3);
        due("a ninth with a number that can't be", x.house(0, 0, 1000, 4, 0), -1);
        due("status()", x.status(), -1);
        due("count(0)", x.count(0), 8);
        due("count(6)", x.count(6), 1);
        due("count(8)", x.count(8), 3);
    }

    private static void of() {
        by("Of a HOUSE NOTE (what 0), STREET (1), COAL (2), DINNER (3), WANTED (4), FIRE (5), WARMTH (6), whether it SOUNDS (7: 1, 0)");
        SmokeTune x = new SmokeTune();
        x.house(6, 3, 999, 7, 5);
        x.house(1, 2, 30, 4, 6);
        x.stoke(1);
        x.pass();
        long[] first = {6, 3, 999, 7, 5, 0, 0, 0, 1, 4, 0};
        long[] second = {1, 2, 29, 4, 6, 3, 4, 1, 1, 4, 0};
        for (int what = 0; what <= 10; what++) {
            due("of(0, " + what + ")", x.of(0, what), first[what]);
            due("of(1, " + what + ")", x.of(1, what), second[what]);
            due("of(2, " + what + ")", x.of(2, what), -1);
            due("of(-1, " + what + ")", x.of(-1, what), -1);
        }
        for (int what : new int[] {-1, 11, 12, MIN, MAX}) {
            due("of(0, " + what + ")", x.of(0, what), -1);
        }
        by("by how much it BURNS down (8), FLARES up (9), whether BARRED (10: 1, 0). NONE.");
        x.force(law(x, "burns fire+5;flares 20-fire;bars if fire<3"));
        due("of(0, 8)", x.of(0, 8), 5);
        due("of(0, 9)", x.of(0, 9), 20);
        due("of(0, 10)", x.of(0, 10), 1);
        due("of(1, 8): more than there is", x.of(1, 8), 8);
        due("of(1, 9)", x.of(1, 9), 17);
        due("of(1, 10)", x.of(1, 10), 0);
    }

    private static void scoreAndChord() {
        by("The CHORD of an HOUR: what it was. -1.");
        SmokeTune x = new SmokeTune();
        for (int hour = 0; hour < 24; hour++) {
            due("score(" + hour + ", " + (hour + 1) + ")", x.score(hour, hour + 1), 0);
        }
        for (int hour = 0; hour < 24; hour++) {
            due("score(" + hour + ", 127)", x.score(hour, 127), hour + 1);
            due("score(" + hour + ", 127) again", x.score(hour, 127), 127);
        }
        due("score(23, 0)", x.score(23, 0), 127);
        due("score(24, 0)", x.score(24, 0), -1);
        due("score(-1, 0)", x.score(-1, 0), -1);
        due("score(22, 128)", x.score(22, 128), -1);
        due("score(22, -1)", x.score(22, -1), -1);
        by("The CHORD of an HOUR. NONE.");
        due("chord(22)", x.chord(22), 127);
        due("chord(23)", x.chord(23), 0);
        due("chord(24)", x.chord(24), -1);
        due("chord(-1)", x.chord(-1), -1);
        x.terms(0, 23);
        due("sounds(2) of an empty CHORD at 23", x.sounds(2), 1);
        due("pass() at 23", x.pass(), 1);
        due("pass() at 0", x.pass(), 0);
    }

    private static void terms() {
        by("A TERM: what it was. -1.");
        SmokeTune x = new SmokeTune();
        int[] first = {0, 0, 3, 12, 3, 0};
        int[] most = {23, 999, 20, 20, 10, 9};
        for (int i = 0; i < 6; i++) {
            due("terms(" + i + ", the most)", x.terms(i, most[i]), first[i]);
            due("terms(" + i + ", one more)", x.terms(i, most[i] + 1), -1);
            due("terms(" + i + ", the most) again", x.terms(i, most[i]), most[i]);
        }
        due("pass() behind the last HOUR", x.pass(), -3);
        x.terms(0, 22);
        due("pass() at 22", x.pass(), 1);
        due("pass() at 23", x.pass(), -3);
        x.terms(1, 998);
        due("pass() at 23 of 998", x.pass(), 1);
        due("DAY", x.count(14), 999);
        due("HOUR", x.count(13), 0);
    }

    private static void feed() {
        by("Twenty bytes come behind the TAPE, four of each number, the highest first: how many it has. NONE, if there would be more than 400.");
        SmokeTune x = new SmokeTune();
        due("feed", x.feed(0x01020304, 0x05060708, 0x090A0B0C, 0x0D0E0F10, 0x11121314), 20);
        x.end(19);
        due("feed behind 19", x.feed(0x7F7E7D7C, 0x7B000000, 0, 0, 0), 39);
        due("row() of 39", x.row(), 24);
        due("ash()", x.ash(), 15);
        int[] chords = {1, 2, 3, 4, 5, 6, 7, 8, 9, 10, 11, 12, 13, 14, 15, 16, 17, 18, 19, 127, 126, 125, 124, 123};
        for (int hour = 0; hour < 24; hour++) {
            due("chord(" + hour + ")", x.chord(hour), chords[hour]);
        }
        due("feed of all bits", x.feed(-1, MIN, MAX, 0x80, 0x7F), 20);
        // 255 255 255 255, 128 0 0 0, 127 255 255 255, 0 0 0 128, 0 0 0 127
        due("row()", x.row(), 11);
        due("ash()", x.ash(), 9);
        int[] then = {1, 2, 3, 4, 5, 0, 0, 0, 127, 10, 11, 12, 0, 0, 0, 16, 0, 0, 0, 127};
        for (int hour = 0; hour < 20; hour++) {
            due("chord(" + hour + ")", x.chord(hour), then[hour]);
        }
        for (int i = 1; i <= 20; i++) {
            due("feed " + i, x.feed(i, i, i, i, i), 20 * i);
        }
        due("feed 21", x.feed(0, 0, 0, 0, 0), -1);
        due("count(5)", x.count(5), 400);
        x.end(390);
        due("feed behind 390", x.feed(0, 0, 0, 0, 0), -1);
        due("count(5)", x.count(5), 390);
        x.end(380);
        due("feed behind 380", x.feed(0, 0, 0, 0, 0), 400);
    }

    private static void end() {
        by("The TAPE has its first n bytes alone: n. NONE, if it has not so many, or n is below 0.");
        SmokeTune x = new SmokeTune();
        due("end(0) of none", x.end(0), 0);
        due("end(1) of none", x.end(1), -1);
        due("end(-1) of none", x.end(-1), -1);
        x.feed(0x01020304, 0x05060708, 0, 0, 0);
        due("end(21)", x.end(21), -1);
        due("end(MAX)", x.end(MAX), -1);
        due("end(-1)", x.end(-1), -1);
        due("end(MIN)", x.end(MIN), -1);
        due("count(5)", x.count(5), 20);
        due("end(20)", x.end(20), 20);
        due("end(19)", x.end(19), 19);
        due("end(20) of 19", x.end(20), -1);
        due("end(3)", x.end(3), 3);
        due("row() of the first three", x.row(), 3);
        due("chord(2)", x.chord(2), 3);
        due("chord(3)", x.chord(3), 0);
        due("end(1) behind row()", x.end(1), -1);
        put(x, " ".repeat(400));
        due("end(401)", x.end(401), -1);
        due("end(400)", x.end(400), 400);
        due("end(0)", x.end(0), 0);
        due("count(5)", x.count(5), 0);
        due("none is REFUSED", x.count(6), 0);
        due("status()", x.status(), 0);
    }

    private static void rowAndAsh() {
        by("A ROW, the TAPE is empty then: how many HOURS were told. -6 the TAPE is empty.");
        SmokeTune x = new SmokeTune();
        due("row() of none", x.row(), -6);
        due("status()", x.status(), -6);
        due("count(10)", x.count(10), 1);
        x.score(0, 9);
        put(x, "\u0080");
        due("row() of ASH alone", x.row(), 0);
        due("status()", x.status(), 0);
        due("chord(0)", x.chord(0), 9);
        due("count(5)", x.count(5), 0);
        by("How much ASH the latest row() had that was not REFUSED (0 ahead of any).");
        due("ash()", x.ash(), 1);
        due("row() of none", x.row(), -6);
        due("ash()", x.ash(), 1);
        put(x, "\u007f");
        due("row() of 127", x.row(), 1);
        due("ash()", x.ash(), 0);
        put(x, "\u00ff".repeat(400));
        due("row() of 400 bytes 255", x.row(), 0);
        due("ash()", x.ash(), 400);
        put(x, "\u0000".repeat(24) + "\u0000".repeat(376));
        due("row() of 400 bytes 0", x.row(), 24);
        due("ash()", x.ash(), 376);
        due("chord(0)", x.chord(0), 0);
    }

    private static void law() {
        by("The TAPE, which is empty then, becomes a LAW: its number. -5 (ahead of reading it; the TAPE is empty then, too); -6 (blanks alone: FAULT at the end).");
        SmokeTune x = town(1);
        due("law() of none", x.law(), -6);
        due("fault()", x.fault(), 0);
        for (int blanks : new int[] {1, 20, 399, 400}) {
            due("law() of " + blanks + " blanks", law(x, " ".repeat(blanks)), -6);
            due("fault()", x.fault(), blanks);
            due("count(5)", x.count(5), 0);
        }
        due("count(3)", x.count(3), 0);
        for (int i = 0; i < 6; i++) {
            due("law() " + i, law(x, "flares " + i), i);
            due("status()", x.status(), 0);
            due("count(5)", x.count(5), 0);
            due("law() that can't be", law(x, i < 5 ? "flares" : "bars"), i < 5 ? -6 : -5);
        }
        due("fault() of the one that was read", x.fault(), -1);
        due("a seventh that can't be read", law(x, "flares"), -5);
        due("fault()", x.fault(), -1);
        due("count(5)", x.count(5), 0);
        due("a seventh of none", x.law(), -5);
        due("count(9)", x.count(9), 3);
        due("count(10)", x.count(10), 10);
        for (int i = 0; i < 6; i++) {
            x.force(i);
            due("FLARES by LAW " + i, x.of(0, 9), i);
        }
    }

    private static void orders() {
        by("ORDERS, the TAPE is empty then: how many were run. -3 one can't be; -6 (as for law()).");
        SmokeTune x = town(1);
        due("orders() of none", x.orders(), -6);
        due("fault()", x.fault(), 0);
        due("orders() of blanks", orders(x, "     "), -6);
        due("fault()", x.fault(), 5);
        due("none is run", orders(x, "pass if 1=2"), 0);
        due("status()", x.status(), 0);
        due("one is run", orders(x, "pass"), 1);
        due("count(5)", x.count(5), 0);
        due("240 are run", orders(x, "pass times 20" + ";pass times 20".repeat(11)), 240);
        due("one can't be", orders(x, "pass times 20;stoke 1"), -3);
        due("status()", x.status(), -3);
        due("count(5)", x.count(5), 0);
        due("count(8)", x.count(8), 1);
        due("count(10)", x.count(10), 2);
        due("DAY", x.count(14), 10);
        due("HOUR", x.count(13), 1);
    }

    private static void fault() {
        by("FAULT of the latest law(), orders() that read a TEXT: its place; NONE without.");
        SmokeTune x = town(1);
        due("fault() ahead of any", x.fault(), -1);
        law(x, "bars ?");
        due("fault() of law()", x.fault(), 5);
        x.row();
        due("fault() behind row()", x.fault(), 5);
        orders(x, "pass  ?");
        due("fault() of orders()", x.fault(), 6);
        orders(x, "stoke 9");
        due("fault() of orders() that can't be run", x.fault(), -1);
        law(x, "?");
        due("fault() at 0", x.fault(), 0);
        law(x, "bars");
        due("fault() of one without", x.fault(), -1);
        x.orders();
        due("fault() of none", x.fault(), 0);
        x.image(0);
        orders(x, "pass;");
        x.back(0);
        due("fault() behind back()", x.fault(), 5);
    }

    private static void stopped() {
        by("Which CLAUSE of the latest orders() could not be. NONE.");
        SmokeTune x = town(1);
        due("stopped() ahead of any", x.stopped(), -1);
        due("the first", orders(x, "stoke 8") * 100 + x.stopped(), -300);
        due("the last of twelve", orders(x, "pass;".repeat(11) + "stoke 8") * 100 + x.stopped(), -289);
        due("the first of twelve", orders(x, "stoke 8" + ";pass".repeat(11)) * 100 + x.stopped(), -300);
        due("the 20th time of the second", orders(x, "damp 0 by 1;damp 0 by 20-done times 20") * 100 + x.stopped(), -299);
        law(x, "?");
        due("stopped() behind law()", x.stopped(), 1);
        x.image(0);
        x.back(0);
        due("stopped() behind back()", x.stopped(), 1);
        due("ones that can't be read", orders(x, "stoke") * 100 + x.stopped(), -601);
        orders(x, "stoke 8");
        due("ones that could be", orders(x, "pass") * 100 + x.stopped(), 99);
    }

    private static void force() {
        by("A LAW is in FORCE (NONE: none): which was. -2.");
        SmokeTune x = town(1);
        due("force(0) without", x.force(0), -2);
        due("force(-1)", x.force(-1), -1);
        due("status()", x.status(), 0);
        law(x, "burns 5");
        due("force(1) of one", x.force(1), -2);
        due("force(-2)", x.force(-2), -2);
        due("force(0)", x.force(0), -1);
        due("force(0) again", x.force(0), 0);
        due("force(MAX)", x.force(MAX), -2);
        due("force(MIN)", x.force(MIN), -2);
        due("count(11)", x.count(11), 0);
        due("of(0, 8)", x.of(0, 8), 5);
        due("force(-1)", x.force(-1), 0);
        due("of(0, 8)", x.of(0, 8), 1);
        due("count(7)", x.count(7), 5);
    }

    private static void discord() {
        by("What all discords are FINED together now.");
        SmokeTune x = new SmokeTune();
        for (int h = 0; h < 8; h++) {
            x.house(h % 2 == 0 ? 6 : 0, 2, 9, h, h);
            x.stoke(h);
            // each of those with 6 with each of those with 0
            due("discord() of " + (h + 1), x.discord(), (h + 2) / 2 * ((h + 1) / 2));
        }
        x.force(law(x, "fines 999"));
        due("discord() at its most", x.discord(), 16 * 999);
        x.pass();
        due("count(12)", x.count(12), 16 * 999);
        x.force(law(x, "fines 0"));
        due("discord() by 0", x.discord(), 0);
        x.force(-1);
        x.terms(2, 4);
        due("discord() of FIRES 3, LOW 4", x.discord(), 0);
        x.terms(2, 3);
        due("discord() of FIRES 3, LOW 3", x.discord(), 16);
        x.terms(3, 2);
        due("discord() of FIRES 3, HIGH 2", x.discord(), 0);
    }

    private static void soundingNotes() {
        by("NOTES that SOUND now, as bits (what 0)");
        SmokeTune x = town(8);
        int notes = 0;
        for (int h = 0; h < 8; h++) {
            due("sounds(0) with " + h, x.sounds(0), notes);
            x.stoke(h);
            notes |= 1 << h % 7;
        }
        due("sounds(0) with 8", x.sounds(0), 127);
        x.damp(0, 4);
        due("sounds(0): 0 in HOUSE 7 still", x.sounds(0), 127);
        x.damp(7, 4);
        due("sounds(0) without 0", x.sounds(0), 126);
        by("whether the CHORD of this HOUR would be MET (2: 1, 0). NONE.");
        int[] chords = {0, 1, 126, 127, 64};
        int[] met = {1, 0, 1, 0, 1};
        for (int i = 0; i < chords.length; i++) {
            x.score(0, chords[i]);
            x.score(1, 127 - chords[i]);
            due("sounds(2) with CHORD " + chords[i], x.sounds(2), met[i]);
        }
        for (int what : new int[] {-1, 3, MIN, MAX}) {
            due("sounds(" + what + ")", x.sounds(what), -1);
        }
    }

    private static void thirds() {
        by("how many of seven thirds-chords (n, n and 2, n and 4, around seven) SOUND (1)");
        int[][] chords = {{0, 2, 4}, {1, 3, 5}, {2, 4, 6}, {3, 5, 0}, {4, 6, 1}, {5, 0, 2}, {6, 1, 3}};
        for (int notes = 0; notes < 128; notes++) {
            SmokeTune x = town(7);
            for (int n = 0; n < 7; n++) {
                if ((notes >> n & 1) == 1) {
                    x.stoke(n);
                }
            }
            int total = 0;
            for (int[] chord : chords) {
                boolean all = true;
                for (int n : chord) {
                    all &= (notes >> n & 1) == 1;
                }
                total += all ? 1 : 0;
            }
            due("sounds(1) of NOTES " + notes, x.sounds(1), total);
            due("sounds(0) of NOTES " + notes, x.sounds(0), notes);
        }
    }

    private static void stokeDampBuy() {
        by("To STOKE: FIRE then. -2; -3.");
        SmokeTune x = new SmokeTune();
        due("stoke(0) without HOUSES", x.stoke(0), -2);
        x.house(0, 0, 1, 0, 0);
        due("stoke(0)", x.stoke(0), 4);
        due("stoke(0) without COAL", x.stoke(0), -3);
        due("stoke(1)", x.stoke(1), -2);
        due("stoke(-1)", x.stoke(-1), -2);
        due("count(7)", x.count(7), 3);
        due("count(8)", x.count(8), 1);
        due("count(4)", x.count(4), 1);
        by("To DAMP: FIRE then. -1; -2.");
        due("damp(0, 21)", x.damp(0, 21), -1);
        due("damp(0, 0)", x.damp(0, 0), -1);
        due("damp(1, 20)", x.damp(1, 20), -2);
        due("damp(0, 1)", x.damp(0, 1), 3);
        due("damp(0, 20)", x.damp(0, 20), 0);
        due("count(4)", x.count(4), 3);
        by("To BUY: COAL then. -1; -2.");
        due("buy(0, 1000)", x.buy(0, 1000), -1);
        due("buy(0, 0)", x.buy(0, 0), -1);
        due("buy(1, 999)", x.buy(1, 999), -2);
        due("buy(0, 1)", x.buy(0, 1), 1);
        due("buy(0, 998)", x.buy(0, 998), 999);
        due("buy(0, 999)", x.buy(0, 999), 999);
        due("count(4)", x.count(4), 6);
    }

    private static void pass() {
        by("An HOUR passes: whether its CHORD was MET (1, 0). -3.");
        SmokeTune x = town(1);
        x.score(0, 1);
        due("pass() not MET", x.pass(), 0);
        due("status()", x.status(), 0);
        x.undo();
        x.stoke(0);
        due("pass() MET", x.pass(), 1);
        x.terms(0, 23);
        x.terms(1, 998);
        due("pass() at 23 of 998", x.pass(), 1);
        due("HOUR", x.count(13), 0);
        due("DAY", x.count(14), 999);
        due("23 more", orders(x, "pass times 20;pass times 3"), 23);
        due("pass() at 23 of 999", x.pass(), -3);
        due("status()", x.status(), -3);
        due("undo()", x.undo(), 3);
        due("pass() at 22 of 999", x.pass(), 1);
        due("pass() at 23 of 999", x.pass(), -3);
    }

    private static void undoKept() {
        by("(by ORDERS, too; 16 are kept) is undone: 0 .. 3.");
        for (int acts = 0; acts <= 40; acts++) {
            SmokeTune x = new SmokeTune();
            x.house(0, 0, 100, 0, 0);
            for (int i = 0; i < acts; i++) {
                due("buy(0, 1)", x.buy(0, 1), 101 + i);
                due("count(4)", x.count(4), Math.min(16, i + 1));
            }
            for (int i = 0; i < Math.min(16, acts); i++) {
                due("undo()", x.undo(), 2);
                due("COAL", x.of(0, 2), 100 + acts - i - 1);
                due("count(4)", x.count(4), Math.min(16, acts) - i - 1);
            }
            due("undo() of none of " + acts, x.undo(), -3);
            due("COAL", x.of(0, 2), 100 + Math.max(0, acts - 16));
        }
        SmokeTune x = town(1);
        due("15 by ORDERS", orders(x, "buy 0 by 1 times 15"), 15);
        due("count(4)", x.count(4), 15);
        due("two more", orders(x, "stoke 0;damp 0 by 1"), 2);
        due("count(4)", x.count(4), 16);
        due("undo()", x.undo(), 1);
        due("undo()", x.undo(), 0);
        for (int i = 0; i < 14; i++) {
            due("undo()", x.undo(), 2);
        }
        due("undo()", x.undo(), -3);
        due("COAL", x.of(0, 2), 101);
    }

    private static void undoAroundTheKept() {
        by("The latest stoke(), damp(), buy(), pass()");
        SmokeTune x = new SmokeTune();
        x.house(0, 0, 0, 0, 0);
        int coal = 0;
        for (int round = 0; round < 9; round++) {
            for (int i = 0; i < 11; i++) {
                coal = x.buy(0, 1);
            }
            for (int i = 0; i < 7; i++) {
                due("undo() in round " + round, x.undo(), 2);
                coal--;
                due("COAL in round " + round, x.of(0, 2), coal);
            }
            due("count(4) in round " + round, x.count(4), round == 0 ? 4 : round == 1 ? 8 : 9);
        }
        due("COAL", x.of(0, 2), 36);
        for (int i = 0; i < 9; i++) {
            due("undo()", x.undo(), 2);
        }
        due("undo() no more", x.undo(), -3);
        due("COAL", x.of(0, 2), 27);
    }

    private static void undoBringsBack() {
        by("is undone: 0 .. 3.");
        SmokeTune x = town(8);
        x.terms(0, 23);
        x.terms(1, 998);
        x.force(law(x, "burns 20;fines 999"));
        for (int h = 0; h < 8; h++) {
            x.stoke(h);
        }
        x.damp(7, 2);
        due("pass()", x.pass(), 1);
        due("FINES", x.count(12), 7 * 999);
        due("DAY", x.count(14), 999);
        x.force(-1);
        x.score(23, 3);
        due("undo()", x.undo(), 3);
        due("FINES", x.count(12), 0);
        due("DAY", x.count(14), 998);
        due("HOUR", x.count(13), 23);
        due("what is in FORCE is none of it", x.count(11), -1);
        due("the SCORE is none of it", x.chord(23), 3);
        for (int h = 0; h < 8; h++) {
            due("FIRE of " + h, x.of(h, 5), h == 7 ? 2 : 4);
            due("WARMTH of " + h, x.of(h, 6), 0);
            due("COAL of " + h, x.of(h, 2), 99);
        }
        due("undo() of damp()", x.undo(), 1);
        due("FIRE of 7", x.of(7, 5), 4);
        due("undo() of stoke()", x.undo(), 0);
        due("FIRE of 7", x.of(7, 5), 0);
        due("COAL of 7", x.of(7, 2), 100);
        due("FIRE of 6", x.of(6, 5), 4);
        x.buy(6, 999);
        due("COAL of 6", x.of(6, 2), 999);
        due("undo() of buy()", x.undo(), 2);
        due("COAL of 6", x.of(6, 2), 99);
        x.damp(6, 20);
        due("undo() of damp() to 0", x.undo(), 1);
        due("FIRE of 6", x.of(6, 5), 4);
    }

    private static void undoNoMore() {
        by("-3 there is none (nothing that was ahead of a house(), terms() that was not REFUSED can be undone).");
        SmokeTune x = town(1);
        x.buy(0, 1);
        x.house(0, 0, 0, 0, 0);
        x.house(7, 0, 0, 1, 0);
        x.terms(0, 24);
        x.terms(6, 0);
        due("REFUSED ones leave it", x.count(4), 1);
        due("undo()", x.undo(), 2);
        x.buy(0, 1);
        x.terms(0, 0);
        due("terms() as it was", x.count(4), 0);
        due("undo()", x.undo(), -3);
        x.buy(0, 1);
        x.house(0, 0, 0, 1, 0);
        due("house()", x.count(4), 0);
        due("undo()", x.undo(), -3);
        x.buy(1, 5);
        x.score(0, 1);
        x.force(-1);
        x.hear(1);
        x.forget();
        law(x, "bars");
        x.days(0, 9);
        x.image(0);
        put(x, "\u0001");
        x.row();
        x.back(1);
        due("others leave it", x.count(4), 1);
        due("undo()", x.undo(), 2);
        due("COAL", x.of(1, 2), 0);
        due("undo()", x.undo(), -3);
        due("status()", x.status(), -3);
    }

    private static void least() {
        by("for n HOURS 1 .. 12, told ones (bits): how much (i NONE), how often it is stoked ahead of the i-th. NONE (it can't be).");
        SmokeTune x = town(2);
        for (int n = -1; n <= 14; n++) {
            boolean can = n >= 1 && n <= 12;
            due("least(1, " + n + ", 0, -1)", x.least(1, n, 0, -1), can ? 0 : -1);
            due("least(1, " + n + ", 0, n - 1)", x.least(1, n, 0, n - 1), can ? 0 : -1);
            due("least(1, " + n + ", 0, n)", x.least(1, n, 0, n), -1);
        }
        due("least(2, 1, 0, -1)", x.least(2, 1, 0, -1), -1);
        due("i MAX", x.least(1, 12, 0, MAX), -1);
        due("i MIN", x.least(1, 12, 0, MIN), -1);
        due("the last of twelve", x.least(1, 12, 2048, 11), 1);
        due("the first of twelve", x.least(1, 12, 2048, 0), 0);
        // 4, 3, 2 and 4: it SOUNDS in the second one, too; 8, then 7 and 8, then 14 does not SOUND in the third
        due("what can't be", x.least(1, 3, 5, -1), -1);
        due("what can't be, HOUR by HOUR", x.least(1, 3, 5, 0), -1);
        x.force(law(x, "bars"));
        due("BARRED", x.least(1, 1, 1, -1), -1);
        due("BARRED, none told", x.least(1, 1, 0, -1), 0);
    }

    private static void ringsAndTune() {
        by("RINGS: the DINNER of a HOUSE then. NONE.");
        SmokeTune x = new SmokeTune();
        for (int h = 0; h < 8; h++) {
            due("rings(" + h + ") ahead", x.rings(h), -1);
            x.house(h % 7, h / 4, 0, h, 7 - h);
        }
        for (int h = 0; h < 8; h++) {
            due("rings(" + h + ")", x.rings(h), 7 - h);
        }
        due("rings(8)", x.rings(8), -1);
        due("rings(-1)", x.rings(-1), -1);
        by("how far NOTES are moved together (what 0), the NOTE of HOUSE h then (1 + h). NONE (no such STREET; a HOUSE not in it).");
        // 0 1 2 3: 0 0 2 2 moves two; 4 5 6 0: 3 5 0 0 moves two, and is ahead of 4 4 6 6
        int[] first = {0, 0, 2, 2};
        int[] second = {3, 5, 0, 0};
        due("tune(0, 0)", x.tune(0, 0), 2);
        due("tune(1, 0)", x.tune(1, 0), 2);
        for (int h = 0; h < 4; h++) {
            due("tune(0, " + (1 + h) + ")", x.tune(0, 1 + h), first[h]);
            due("tune(0, " + (5 + h) + ")", x.tune(0, 5 + h), -1);
            due("tune(1, " + (1 + h) + ")", x.tune(1, 1 + h), -1);
            due("tune(1, " + (5 + h) + ")", x.tune(1, 5 + h), second[h]);
        }
        for (int what : new int[] {-1, 9, MIN, MAX}) {
            due("tune(0, " + what + ")", x.tune(0, what), -1);
            due("tune(1, " + what + ")", x.tune(1, what), -1);
        }
        for (int street : new int[] {-1, 4, MIN, MAX}) {
            due("tune(" + street + ", 0)", x.tune(street, 0), -1);
            due("tune(" + street + ", 1)", x.tune(street, 1), -1);
        }
        due("tune(2, 0)", x.tune(2, 0), 0);
        due("tune(3, 0)", x.tune(3, 0), 0);
        due("tune(3, 8)", x.tune(3, 8), -1);
    }

    private static void hearAndForget() {
        by("HEARD: how often there was. -1; -5.");
        SmokeTune x = town(1);
        due("hear(-1)", x.hear(-1), -1);
        due("hear(128)", x.hear(128), -1);
        for (int i = 1; i <= 6; i++) {
            due("hear(1)", x.hear(1), i);
            due("count(2)", x.count(2), i);
        }
        due("hear(1)", x.hear(1), -5);
        due("status()", x.status(), -5);
        due("hear(2): it is not HEARD", x.hear(2), -5);
        due("hill(-1)", x.hill(-1), 1);
        by("HEARD is nothing then: how often there was.");
        due("forget()", x.forget(), 6);
        due("status()", x.status(), -5);
        due("count(2)", x.count(2), 0);
        due("hill(0): none burns", x.hill(0), 0);
        due("forget()", x.forget(), 0);
        due("hear(0)", x.hear(0), 1);
        due("hill(0): none burns", x.hill(0), 0);
        due("hear(1)", x.hear(1), 2);
        due("hill(0)", x.hill(0), 1);
        due("forget()", x.forget(), 2);
    }

    private static void hillAndAsk() {
        by("ON A HILL: how many sets (i NONE), the i-th, as bits. NONE.");
        SmokeTune x = new SmokeTune();
        int[] notes = {2, 2, 3, 5};
        for (int h = 0; h < notes.length; h++) {
            x.house(notes[h], 0, 0, h, h);
        }
        x.hear(4);
        x.hear(8);
        // house 2 burns, 3 does not, of 0 and 1 one at least: 5, 6, 7
        due("hill(-1)", x.hill(-1), 3);
        due("hill(0)", x.hill(0), 5);
        due("hill(1)", x.hill(1), 6);
        due("hill(2)", x.hill(2), 7);
        due("hill(3)", x.hill(3), -1);
        due("hill(-2)", x.hill(-2), -1);
        by("To ASK: the HOUSE (what 0), how many sets are left at most (1). NONE (no HOUSES, no sets).");
        due("ask(0)", x.ask(0), 0);
        due("ask(1)", x.ask(1), 2);
        due("ask(2)", x.ask(2), -1);
        due("ask(-1)", x.ask(-1), -1);
        x.forget();
        x.hear(8);
        // house 2 alone: 4; by each HOUSE one set is left
        due("ask(0) of one set", x.ask(0), 0);
        due("ask(1) of one set", x.ask(1), 1);
        x.hear(1);
        due("ask(0) of no sets", x.ask(0), -1);
        due("ask(1) of no sets", x.ask(1), -1);
        x.forget();
        x.house(0, 0, 0, 7, 7);
        x.house(0, 0, 0, 6, 7);
        x.hear(1);
        // 16, 32, 48: houses 0 to 3 never burn
        due("ask(0) of the last ones", x.ask(0), 4);
        due("ask(1) of the last ones", x.ask(1), 2);
    }

    private static void chanceAndCompare() {
        by("The chance that a CHORD is MET. NONE.");
        SmokeTune x = town(7);
        due("chance(-1)", x.chance(-1), -1);
        due("chance(128)", x.chance(128), -1);
        due("chance(0)", x.chance(0), 1_000_000_000_000L);
        for (int h = 0; h < 7; h++) {
            x.stoke(h);
        }
        long[] seven = {1_000_000_000_000L, 700_000_000_000L, 490_000_000_000L, 343_000_000_000L, 240_100_000_000L, 168_070_000_000L, 117_649_000_000L,
            82_354_300_000L};
        for (int notes = 0; notes < 128; notes++) {
            due("chance(" + notes + ")", x.chance(notes), seven[Integer.bitCount(notes)]);
        }
        by("COMPARED for n HOURS 1 .. 60. NONE.");
        SmokeTune y = town(1);
        for (int n = -1; n <= 62; n++) {
            // stoked at 0, 2, 6, 10 ..
            int due = n < 1 || n > 60 ? -1 : n < 3 ? 1 : 2 + (n - 3) / 4;
            due("compare(-1, " + n + ")", y.compare(-1, n), due);
        }
        for (int i = 0; i < 6; i++) {
            due("compare(" + i + ", 1) ahead of it", y.compare(i, 1), -1);
            law(y, "burns 20 if hour<" + i);
            due("compare(" + i + ", 60)", y.compare(i, 1), 1);
        }
        due("compare(6, 1)", y.compare(6, 1), -1);
        due("compare(-2, 1)", y.compare(-2, 1), -1);
        due("compare(5, 6)", y.compare(5, 6), 6);
    }

    private static void days() {
        by("DAYS, kept as the latest: how many CHORDS were MET. -1.");
        SmokeTune x = new SmokeTune();
        x.score(0, 1);
        due("days(0, 1)", x.days(0, 1), 0);
        due("days(0, 2)", x.days(0, 2), 1);
        due("days(0, 24)", x.days(0, 24), 23);
        due("days(0, 25)", x.days(0, 25), 23);
        due("days(0, 26)", x.days(0, 26), 24);
        due("days(1000000, 100)", x.days(1_000_000, 100), 95);
        due("days(1000001, 100)", x.days(1_000_001, 100), -1);
        due("days(-1, 100)", x.days(-1, 100), -1);
        due("days(0, 101)", x.days(0, 101), -1);
        due("days(0, 0)", x.days(0, 0), -1);
        due("count(6)", x.count(6), 4);
        due("status()", x.status(), -1);
        x.house(0, 0, 1, 0, 0);
        // the one HOUSE is stoked in the first HOUR alone: it SOUNDS in HOURS 0 and 1
        due("days(0, 100) with one HOUSE", x.days(0, 100), 96);
        due("status()", x.status(), 0);
        due("drawn(0, 0)", x.drawn(0, 0), 0);
        due("drawn(0, 1)", x.drawn(0, 1), 0);
        due("COAL as it was", x.of(0, 2), 1);
        due("HOUR as it was", x.count(13), 0);
        due("DAY as it was", x.count(14), 0);
        due("WARMTH as it was", x.of(0, 6), 0);
        due("none can be undone", x.count(4), 0);
    }

    private static void drawn() {
        by("Behind the latest DAYS FIRE (what 0), COAL (1) of HOUSE k, FINES that came in them (2; k aside). NONE.");
        SmokeTune x = town(2);
        for (int what = -1; what <= 3; what++) {
            due("drawn(0, " + what + ") ahead of any", x.drawn(0, what), -1);
        }
        x.days(-1, 1);
        due("drawn(0, 2) behind REFUSED ones alone", x.drawn(0, 2), -1);
        x.stoke(0);
        x.days(0, 1);
        // house 1 is drawn: both SOUND, FINES are 1
        due("drawn(0, 0)", x.drawn(0, 0), 3);
        due("drawn(1, 0)", x.drawn(1, 0), 3);
        due("drawn(0, 1)", x.drawn(0, 1), 99);
        due("drawn(1, 1)", x.drawn(1, 1), 99);
        for (int k : new int[] {0, 1, 2, -1, 8, MIN, MAX}) {
            due("drawn(" + k + ", 2)", x.drawn(k, 2), 1);
        }
        for (int k : new int[] {2, -1, 8, MIN, MAX}) {
            due("drawn(" + k + ", 0)", x.drawn(k, 0), -1);
            due("drawn(" + k + ", 1)", x.drawn(k, 1), -1);
        }
        for (int what : new int[] {-1, 3, MIN, MAX}) {
            due("drawn(0, " + what + ")", x.drawn(0, what), -1);
        }
        x.days(0, 101);
        due("drawn(1, 1) behind REFUSED ones", x.drawn(1, 1), 99);
        x.pass();
        x.house(5, 3, 7, 7, 7);
        x.image(0);
        x.back(0);
        due("drawn(1, 0) behind what is done", x.drawn(1, 0), 3);
        due("drawn(2, 0): it was not there", x.drawn(2, 0), -1);
        x.days(0, 1);
        due("drawn(2, 1) anew", x.drawn(2, 1), 7);
        due("drawn(0, 2) anew", x.drawn(0, 2), 0);
    }

    private static void imageAndBack() {
        by("IMAGE k is kept: 0; -1.");
        SmokeTune x = town(2);
        due("image(-1)", x.image(-1), -1);
        due("image(2)", x.image(2), -1);
        by("BACK to IMAGE k: 0. -1; -2 it was not kept.");
        due("back(-1)", x.back(-1), -1);
        due("back(2)", x.back(2), -1);
        due("back(0)", x.back(0), -2);
        due("back(1)", x.back(1), -2);
        due("count(6)", x.count(6), 4);
        due("count(7)", x.count(7), 2);
        due("image(1)", x.image(1), 0);
        due("status()", x.status(), 0);
        due("back(0)", x.back(0), -2);
        due("status()", x.status(), -2);
        x.stoke(0);
        due("image(0)", x.image(0), 0);
        due("back(1)", x.back(1), 0);
        due("status()", x.status(), 0);
        due("FIRE", x.of(0, 5), 0);
        due("back(0)", x.back(0), 0);
        due("FIRE", x.of(0, 5), 4);
        due("back(0) again", x.back(0), 0);
        due("FIRE", x.of(0, 5), 4);
        by("(IMAGES do not keep that)");
        due("count(6)", x.count(6), 4);
        due("count(7)", x.count(7), 3);
    }

    private static void imagesOfNothing() {
        by("BACK to one all that it keeps is as it was then (IMAGES stay).");
        SmokeTune x = new SmokeTune();
        x.image(0);
        for (int h = 0; h < 8; h++) {
            x.house(6 - h % 7, h % 4, 100 + h, h, 7 - h);
            x.stoke(h);
        }
        for (int i = 0; i < 6; i++) {
            law(x, "burns " + i + ";flares " + (10 + i));
            x.hear(1 << i);
        }
        for (int hour = 0; hour < 24; hour++) {
            x.score(hour, 127 - hour);
        }
        x.force(5);
        int[] most = {23, 998, 20, 19, 10, 9};
        for (int i = 0; i < 6; i++) {
            x.terms(i, most[i]);
        }
        x.image(1);
        due("back(0)", x.back(0), 0);
        long[] none = {0, 0, 0, 0, 0, 0, 0, 0, 0, 0, 0, -1, 0, 0, 0, 3, 12, 3, 0};
        for (int i = 0; i < none.length; i++) {
            due("count(" + i + ") of nothing", x.count(i), none[i]);
        }
        for (int hour = 0; hour < 24; hour++) {
            due("chord(" + hour + ") of nothing", x.chord(hour), 0);
        }
        due("of(0, 0)", x.of(0, 0), -1);
        due("hill(-1)", x.hill(-1), 1);
        due("force(0)", x.force(0), -2);
        due("compare(0, 1)", x.compare(0, 1), -1);
        due("house()", x.house(1, 1, 1, 1, 1), 0);
        due("law()", law(x, "burns 9"), 0);
        due("back(1)", x.back(1), 0);
        long[] full = {8, 0, 6, 6, 0, 0, 0, 1, 0, 0, 0, 5, 0, 23, 998, 20, 19, 10, 9};
        for (int i = 0; i < full.length; i++) {
            due("count(" + i + ") of all", x.count(i), full[i]);
        }
        for (int h = 0; h < 8; h++) {
            long[] facts = {6 - h % 7, h % 4, 99 + h, h, 7 - h, 4, 0, 0, 5, 15, 0};
            for (int what = 0; what <= 10; what++) {
                due("of(" + h + ", " + what + ") of all", x.of(h, what), facts[what]);
            }
        }
        due("chord(23) of all", x.chord(23), 104);
        x.force(0);
        due("LAW 0 of all", x.of(0, 9), 10);
        x.pass();
        due("back(1)", x.back(1), 0);
        due("DAY", x.count(14), 998);
        due("FORCE", x.count(11), 5);
        due("WARMTH", x.of(0, 6), 0);
        due("undo()", x.undo(), -3);
    }

    private static void count() {
        by("0 HOUSES, 1 how many SOUND, 2 HEARD, 3 LAWS, 4 how many can be undone, 5 bytes of the TAPE");
        SmokeTune x = town(8);
        for (int h = 0; h < 8; h++) {
            due("count(1)", x.count(1), h);
            x.stoke(h);
        }
        due("count(0)", x.count(0), 8);
        due("count(1)", x.count(1), 8);
        due("count(4)", x.count(4), 8);
        x.damp(0, 2);
        due("count(1)", x.count(1), 7);
        x.feed(0, 0, 0, 0, 0);
        due("count(5)", x.count(5), 20);
        by("11 the LAW in FORCE, 12 FINES, 13 .. 18 TERMS 0 .. 5. NONE for others.");
        for (int what : new int[] {-1, 19, 20, -6, MIN, MAX}) {
            due("count(" + what + ")", x.count(what), -1);
        }
        int[] least = {0, 0, 1, 1, 0, 0};
        for (int i = 0; i < 6; i++) {
            x.terms(i, least[i] + 1);
            due("count(" + (13 + i) + ")", x.count(13 + i), least[i] + 1);
            x.terms(i, least[i]);
            due("count(" + (13 + i) + ")", x.count(13 + i), least[i]);
        }
        due("count(11)", x.count(11), -1);
        for (int i = 0; i < 6; i++) {
            due("count(3)", x.count(3), i);
            x.force(law(x, "bars"));
            due("count(11)", x.count(11), i);
        }
        due("count(3)", x.count(3), 6);
    }

    private static void refusalsCounted() {
        by("6 .. 10 how many calls were REFUSED by -1, -2, -3, -5, -6");
        SmokeTune x = town(1);
        for (int i = 0; i < 7; i++) {
            x.hear(1);
        }
        long[] due = {0, 0, 0, 1, 0};
        for (int i = 0; i < 5; i++) {
            due("count(" + (6 + i) + ")", x.count(6 + i), due[i]);
        }
        x.image(0);
        x.hear(1);
        x.row();
        x.row();
        x.row();
        x.stoke(1);
        x.stoke(1);
        x.stoke(1);
        x.stoke(1);
        for (int i = 0; i < 5; i++) {
            x.score(24, 0);
        }
        for (int i = 0; i < 6; i++) {
            x.undo();
        }
        x.back(0);
        long[] then = {5, 4, 6, 2, 3};
        for (int i = 0; i < 5; i++) {
            due("count(" + (6 + i) + ") behind back()", x.count(6 + i), then[i]);
        }
        x.of(9, 9);
        x.chord(99);
        x.end(99);
        x.sounds(99);
        x.least(9, 9, 9, 9);
        x.rings(9);
        x.tune(9, 9);
        x.hill(999);
        x.ask(9);
        x.chance(-9);
        x.compare(9, 9);
        x.drawn(9, 9);
        x.count(99);
        for (int i = 0; i < 5; i++) {
            due("count(" + (6 + i) + ") behind NONE", x.count(6 + i), then[i]);
        }
        orders(x, "stoke 9;stoke 9");
        due("ORDERS that can't be are one call, by -3", x.count(8), 7);
        due("none by -2", x.count(7), 4);
        orders(x, "damp 0 by 0");
        due("none by -1", x.count(6), 5);
        due("by -3", x.count(8), 8);
        x.days(0, 20);
        due("DAYS with HOUSES that can't be stoked", x.count(8), 8);
    }

    private static void status() {
        by("was REFUSED by; 0 if it was not, or ahead of any.");
        SmokeTune x = town(1);
        int[] by = {-1, -2, -3, -5, -6};
        for (int i = 0; i < 6; i++) {
            x.hear(0);
        }
        for (int i = 0; i < 5; i++) {
            for (int call = 0; call < 16; call++) {
                refuse(x, by[i]);
                due("status() by " + by[i], x.status(), by[i]);
                x.of(0, 0);
                x.count(0);
                x.end(0);
                due("status() behind others", x.status(), by[i]);
                accepted(x, call);
                due("status() of call " + call, x.status(), 0);
            }
        }
    }

    private static void refuse(SmokeTune x, int by) {
        switch (by) {
            case -1:
                x.image(2);
                break;
            case -2:
                x.force(9);
                break;
            case -3:
                x.house(0, 0, 0, 0, 0);
                break;
            case -5:
                x.hear(1);
                break;
            default:
                x.row();
                break;
        }
    }

    /** One of the calls that status() tells of, which is not refused; the town has one house, and six heard, behind it. */
    private static void accepted(SmokeTune x, int call) {
        switch (call) {
            case 0:
                x.image(0);
                x.row();
                x.house(1, 1, 1, 1, 1);
                due("status() of house()", x.status(), 0);
                x.back(0);
                break;
            case 1: x.score(0, 0); break;
            case 2: x.terms(0, 0); break;
            case 3: x.feed(0, 0, 0, 0, 0); x.row(); break;
            case 4:
                x.image(0);
                put(x, "bars");
                x.row();
                put(x, "bars");
                x.law();
                due("status() of law()", x.status(), 0);
                x.back(0);
                break;
            case 5: put(x, "pass"); x.orders(); break;
            case 6: x.force(-1); break;
            case 7: x.buy(0, 1); x.row(); x.stoke(0); break;
            case 8: x.damp(0, 1); break;
            case 9: x.buy(0, 1); break;
            case 10: x.pass(); break;
            case 11: x.pass(); x.row(); x.undo(); break;
            case 12:
                x.image(0);
                x.forget();
                x.row();
                x.hear(1);
                due("status() of hear()", x.status(), 0);
                x.back(0);
                break;
            case 13: x.days(0, 1); break;
            case 14: x.image(1); break;
            default: x.image(0); x.row(); x.back(0); break;
        }
    }
}
