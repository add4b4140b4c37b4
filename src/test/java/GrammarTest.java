import java.util.ArrayList;
import java.util.Arrays;
import java.util.LinkedHashMap;
import java.util.LinkedHashSet;
import java.util.List;
import java.util.Map;
import java.util.Random;
import java.util.Set;

/**
 * The two languages against the document's grammar, written down as rules and followed by a recogniser of any grammar
 * (Earley's): which TOKENS can go on is asked of the rules, the FAULT of the program must be the first one that can't.
 */
public final class GrammarTest {
    private static final String[] BOTH_LANGUAGES = {
        "TEXT = CLAUSE", "TEXT = TEXT ; CLAUSE",
        "TEST = BOTH", "TEST = TEST or BOTH", "BOTH = PLAIN", "BOTH = BOTH and PLAIN",
        "PLAIN = not PLAIN", "PLAIN = ( TEST )", "PLAIN = SUM < SUM", "PLAIN = SUM > SUM", "PLAIN = SUM = SUM",
        "SUM = TERM", "SUM = SUM + TERM", "SUM = SUM - TERM",
        "TERM = PART", "TERM = TERM * PART", "TERM = TERM / PART", "TERM = TERM % PART",
        "PART = 0..1000", "PART = [ SUM ]"};
    private static final String[] LAWS = {
        "CLAUSE = TOLD", "CLAUSE = TOLD if TEST", "TOLD = burns SUM", "TOLD = flares SUM", "TOLD = fines SUM", "TOLD = bars",
        "PART = house", "PART = note", "PART = street", "PART = fire", "PART = coal", "PART = hour", "PART = day",
        "PART = mood", "PART = other"};
    private static final String[] ORDERS = {
        "CLAUSE = OFTEN", "CLAUSE = OFTEN if TEST", "OFTEN = ACT", "OFTEN = ACT times 1..20",
        "ACT = stoke SUM", "ACT = damp SUM by SUM", "ACT = buy SUM by SUM", "ACT = pass",
        "PART = hour", "PART = day", "PART = fines", "PART = done", "PART = met",
        "PART = fire 0..7", "PART = coal 0..7", "PART = sounds 0..6"};
    private static final String TOKENS = "burns flares fines bars stoke damp buy pass by times if or and not house note street fire coal hour day mood "
        + "other done met sounds 0 1 6 7 8 20 21 1000 1001 007 99999999999999999999 ; ( ) [ ] < > = + - * / % ! x ifs bar";
    private static final String COUNTED_ASIDE = " fire coal sounds times ";

    private static int wrong = 0;
    private static int texts = 0;

    private final Map<String, List<String[]>> rules = new LinkedHashMap<>();
    private final boolean lawful;
    private final Random random;
    private SmokeTune town = new SmokeTune();
    private int calls = 0;

    private GrammarTest(boolean lawful, long seed) {
        this.lawful = lawful;
        this.random = new Random(seed);
        for (String[] some : new String[][] {BOTH_LANGUAGES, lawful ? LAWS : ORDERS}) {
            for (String rule : some) {
                String[] words = rule.split(" ");
                rules.computeIfAbsent(words[0], name -> new ArrayList<>()).add(Arrays.copyOfRange(words, 2, words.length));
            }
        }
    }

    public static void main(String[] args) {
        int walks = Integer.getInteger("walks", 200);
        long seed = Long.getLong("seed", 7);
        for (boolean lawful : new boolean[] {true, false}) {
            GrammarTest test = new GrammarTest(lawful, seed);
            test.fromTheStart();
            for (int i = 0; i < walks; i++) {
                test.walk(i % 4);
            }
        }
        System.out.println(wrong == 0 ? "GrammarTest: " + texts + " texts are read as the grammar says" : "GrammarTest: " + wrong + " wrong");
        if (wrong != 0) {
            System.exit(1);
        }
    }

    /** Where a rule stands: what is still due of it, and the set of items that it began in. */
    private static final class Item {
        private final String name;
        private final String[] parts;
        private final int dot;
        private final int origin;

        private Item(String name, String[] parts, int dot, int origin) {
            this.name = name;
            this.parts = parts;
            this.dot = dot;
            this.origin = origin;
        }

        private String due() {
            return dot < parts.length ? parts[dot] : null;
        }

        @Override
        public boolean equals(Object other) {
            return other instanceof Item i && i.parts == parts && i.dot == dot && i.origin == origin && i.name.equals(name);
        }

        @Override
        public int hashCode() {
            return (System.identityHashCode(parts) * 31 + dot) * 31 + origin;
        }
    }

    /** A text so far: its tokens, and what the rules still allow. */
    private final class Prefix {
        private final List<String> tokens = new ArrayList<>();
        private final List<Set<Item>> sets = new ArrayList<>();
        private int parts = 0;
        private int clauses = 1;
        private int brackets = 0;

        private Prefix() {
            Set<Item> start = new LinkedHashSet<>();
            for (String[] parts : rules.get("TEXT")) {
                start.add(new Item("TEXT", parts, 0, 0));
            }
            sets.add(start);
            close(start);
        }

        private void close(Set<Item> set) {
            List<Item> open = new ArrayList<>(set);
            int here = sets.size() - 1;
            for (int i = 0; i < open.size(); i++) {
                Item item = open.get(i);
                List<Item> more = new ArrayList<>();
                if (item.due() == null) {
                    for (Item waiting : new ArrayList<>(sets.get(item.origin))) {
                        if (item.name.equals(waiting.due())) {
                            more.add(new Item(waiting.name, waiting.parts, waiting.dot + 1, waiting.origin));
                        }
                    }
                } else {
                    for (String[] parts : rules.getOrDefault(item.due(), List.of())) {
                        more.add(new Item(item.due(), parts, 0, here));
                    }
                }
                for (Item next : more) {
                    if (set.add(next)) {
                        open.add(next);
                    }
                }
            }
        }

        private Set<Item> scanned(String token) {
            Set<Item> next = new LinkedHashSet<>();
            for (Item item : sets.get(sets.size() - 1)) {
                if (item.due() != null && !rules.containsKey(item.due()) && matches(item.due(), token)) {
                    next.add(new Item(item.name, item.parts, item.dot + 1, item.origin));
                }
            }
            return next;
        }

        private boolean countsAsPart(String token) {
            boolean aside = !tokens.isEmpty() && !lawful && COUNTED_ASIDE.contains(" " + tokens.get(tokens.size() - 1) + " ");
            boolean word = false;
            for (String[] parts : rules.get("PART")) {
                word |= parts[0].equals(token) && !token.equals("[");
            }
            return !aside && (word || isNumber(token));
        }

        private boolean goesOn(String token) {
            boolean room = !countsAsPart(token) || parts < 50;
            room &= !token.equals("(") && !token.equals("[") || brackets < 8;
            return room && clauses <= 12 && !scanned(token).isEmpty();
        }

        private void add(String token) {
            Set<Item> next = scanned(token);
            parts += countsAsPart(token) ? 1 : 0;
            clauses += token.equals(";") ? 1 : 0;
            brackets += token.equals("(") || token.equals("[") ? 1 : token.equals(")") || token.equals("]") ? -1 : 0;
            tokens.add(token);
            sets.add(next);
            close(next);
        }

        private void removeLast() {
            String token = tokens.remove(tokens.size() - 1);
            sets.remove(sets.size() - 1);
            parts -= countsAsPart(token) ? 1 : 0;
            clauses -= token.equals(";") ? 1 : 0;
            brackets -= token.equals("(") || token.equals("[") ? 1 : token.equals(")") || token.equals("]") ? -1 : 0;
        }

        private boolean whole() {
            for (Item item : sets.get(sets.size() - 1)) {
                if (item.name.equals("TEXT") && item.due() == null && item.origin == 0) {
                    return true;
                }
            }
            return false;
        }
    }

    private static boolean isNumber(String token) {
        return token.charAt(0) >= '0' && token.charAt(0) <= '9';
    }

    private static boolean isWord(String token) {
        return token.charAt(0) >= 'a' && token.charAt(0) <= 'z';
    }

    private static boolean matches(String due, String token) {
        int dots = due.indexOf("..");
        if (dots < 0) {
            return due.equals(token);
        }
        if (!isNumber(token)) {
            return false;
        }
        java.math.BigInteger number = new java.math.BigInteger(token);
        return number.compareTo(new java.math.BigInteger(due.substring(0, dots))) >= 0
            && number.compareTo(new java.math.BigInteger(due.substring(dots + 2))) <= 0;
    }

    /** Every text of few tokens behind the starts told here. */
    private void fromTheStart() {
        every(new Prefix(), 3);
        String[] starts = lawful
            ? new String[] {"bars if", "bars if not", "bars if (", "bars if 1 <", "bars if 1 < 2", "burns 1 ; bars", "flares [ 1", "fines 1 if 1 = [ 2",
                "bars if not ( 1 > 2", "bars if 1 < 2 and", "bars if 1 < 2 or"}
            : new String[] {"damp 0", "damp 0 by", "buy fire", "pass times", "pass times 2", "stoke sounds", "stoke coal 1", "pass if", "pass times 3 if",
                "pass if ( fire 1 = 2", "damp [ 1 ] by 2 times"};
        for (String start : starts) {
            Prefix prefix = new Prefix();
            for (String token : start.split(" ")) {
                if (!prefix.goesOn(token)) {
                    fail("the rules do not read '" + start + "'");
                    return;
                }
                prefix.add(token);
            }
            every(prefix, 2);
        }
    }

    private void every(Prefix prefix, int deep) {
        for (String token : TOKENS.split(" ")) {
            if (deep > 0 && prefix.goesOn(token)) {
                prefix.add(token);
                check(prefix, null);
                every(prefix, deep - 1);
                prefix.removeLast();
            } else if (!prefix.goesOn(token)) {
                check(prefix, token);
            }
        }
    }

    /** A long text by chance, with tokens that can go on; many of them open brackets, go on with parts, or begin clauses. */
    private void walk(int kind) {
        Prefix prefix = new Prefix();
        String[] all = TOKENS.split(" ");
        String[] liked = {"", "[ ( [ ( not", "+ * 1 6 7 /", "; bars pass"};
        for (int i = 0; i < 400; i++) {
            String[] some = kind > 0 && random.nextInt(4) > 0 ? liked[kind].split(" ") : all;
            String token = some[random.nextInt(some.length)];
            if (!prefix.goesOn(token)) {
                if (random.nextInt(4) == 0) {
                    check(prefix, token);
                }
                continue;
            }
            prefix.add(token);
            if (!check(prefix, null)) {
                return;
            }
        }
    }

    /** Reads the text so far, with a token behind it that can't go on if there is one; false, if it is too long for the tape. */
    private boolean check(Prefix prefix, String behind) {
        StringBuilder text = new StringBuilder();
        List<String> tokens = new ArrayList<>(prefix.tokens);
        int fault = -1;
        if (behind != null) {
            tokens.add(behind);
        }
        String last = "!";
        for (int i = 0; i < tokens.size(); i++) {
            String token = tokens.get(i);
            boolean apart = isWord(last) && isWord(token) || isNumber(last) && isNumber(token);
            text.append(" ".repeat(apart ? 1 + random.nextInt(2) : random.nextInt(4) / 2));
            fault = i == prefix.tokens.size() ? text.length() : fault;
            text.append(token);
            last = token;
        }
        if (behind == null) {
            text.append(" ".repeat(random.nextInt(2)));
            fault = prefix.whole() ? -1 : text.length();
        } else if (random.nextBoolean()) {
            // what stands behind a fault makes no odds
            text.append(" ; pass )");
        }
        return read(text.toString(), fault);
    }

    private boolean read(String text, int fault) {
        if (text.length() > 400) {
            return false;
        }
        if (calls > 400) {
            town = new SmokeTune();
            calls = 0;
        }
        for (int from = 0; from < text.length(); from += 20) {
            int[] five = new int[5];
            for (int i = 0; i < 20; i++) {
                five[i / 4] = five[i / 4] << 8 | (from + i < text.length() ? text.charAt(from + i) : 'x');
            }
            town.feed(five[0], five[1], five[2], five[3], five[4]);
            calls++;
        }
        town.end(text.length());
        int answer = lawful ? town.law() : town.orders();
        calls += 4;
        texts++;
        if (town.fault() != fault || (answer == -6) != (fault >= 0)) {
            fail((lawful ? "law" : "orders") + " '" + text + "' answered " + answer + " with fault " + town.fault() + ", due is fault " + fault);
        }
        if (answer == 5 && lawful) {
            town = new SmokeTune();
            calls = 0;
        }
        return true;
    }

    private static void fail(String what) {
        wrong++;
        if (wrong < 20) {
            System.out.println("GrammarTest: " + what);
        }
    }
}
