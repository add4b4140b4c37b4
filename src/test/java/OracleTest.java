import java.util.ArrayList;
import java.util.Arrays;
import java.util.List;
import java.util.Random;

/**
 * Random runs of calls on the class and on a second, plain reading of the document, answer by answer.
 * The second reading shares nothing with the class: trees in place of steps, rows tried one by one in place of tables.
 */
public final class OracleTest {
    private static final int RUNS = Integer.getInteger("runs", 4000);
    private static final int CALLS = 300;
    private static int wrong = 0;

    public static void main(String[] args) {
        long first = Long.getLong("seed", 1L);
        for (long seed = first; seed < first + RUNS && wrong < 20; seed++) {
            new Run(seed).go();
        }
        System.out.println(wrong == 0 ? "OracleTest: " + RUNS + " runs agree" : "OracleTest: " + wrong + " answers differ");
        if (wrong != 0) {
            System.exit(1);
        }
    }

    /** One run of calls. */
    private static final class Run {
        private final long seed;
        private final Random random;
        private final SmokeTune real = new SmokeTune();
        private final Oracle plain = new Oracle();
        private final List<String> calls = new ArrayList<>();
        private final Texts texts;
        private boolean agreed = true;

        Run(long seed) {
            this.seed = seed;
            this.random = new Random(seed * 7919);
            this.texts = new Texts(random);
        }

        void go() {
            int houses = random.nextInt(9);
            for (int i = 0; i < houses && agreed; i++) {
                call("house", new int[] {random.nextInt(7), random.nextInt(3) / 2, random.nextInt(20), random.nextInt(8), random.nextInt(8)});
            }
            if (random.nextInt(2) == 0) {
                text(true);
                call("force", new int[] {0});
            }
            if (random.nextInt(10) == 0) {
                call("terms", new int[] {1, 997 + random.nextInt(3)});
                call("terms", new int[] {0, random.nextInt(24)});
            }
            for (int i = 0; i < CALLS && agreed; i++) {
                anyCall();
            }
        }

        private int house() {
            return random.nextInt(12) == 0 ? random.nextInt(12) - 2 : random.nextInt(Math.max(1, plain.now.houses.size()));
        }

        private int any(int least, int most) {
            return random.nextInt(15) == 0 ? wild(least, most) : least + random.nextInt(most - least + 1);
        }

        private int wild(int least, int most) {
            int[] edges = {least - 1, least, most, most + 1, Integer.MIN_VALUE, Integer.MAX_VALUE, random.nextInt()};
            return edges[random.nextInt(edges.length)];
        }

        private void anyCall() {
            int n = random.nextInt(100);
            if (n < 12) {
                call("stoke", house());
            } else if (n < 16) {
                call("damp", house(), any(1, 20));
            } else if (n < 19) {
                call("buy", house(), random.nextBoolean() ? any(1, 5) : any(1, 999));
            } else if (n < 27) {
                call("pass");
            } else if (n < 32) {
                call("undo");
            } else if (n < 37) {
                text(true);
            } else if (n < 45) {
                text(false);
            } else if (n < 48) {
                call("force", any(-1, Math.max(0, plain.now.laws.size() - 1)));
            } else if (n < 50) {
                if (random.nextInt(4) == 0) {
                    call("house", any(0, 6), any(0, 3), any(0, 999), any(0, 7), any(0, 7));
                }
            } else if (n < 52) {
                int what = any(0, 5);
                if (random.nextInt(3) == 0 && what != 1) {
                    call("terms", what, what == 2 ? any(1, 6) : what == 3 ? any(5, 20) : what == 0 ? any(0, 23) : any(0, 10));
                }
            } else if (n < 54) {
                call("score", any(0, 23), any(0, 127));
            } else if (n < 56) {
                if (random.nextInt(30) == 0) {
                    overflow();
                } else {
                    rowOfBytes();
                }
            } else if (n < 58) {
                call(random.nextBoolean() ? "image" : "back", any(0, 1));
            } else if (n < 60) {
                call("days", any(0, 1_000_000), any(1, 100));
            } else if (n < 63) {
                if (random.nextInt(3) == 0) {
                    call("forget");
                } else {
                    call("hear", random.nextInt(3) == 0 ? any(0, 127) : plain.someNotes(random.nextInt()));
                }
            } else {
                query();
            }
        }

        private void query() {
            switch (random.nextInt(19)) {
                case 0: case 1: call("of", house(), any(0, 10)); break;
                case 2: call("chord", any(0, 23)); break;
                case 3: call("ash"); break;
                case 4: call("fault"); break;
                case 5: call("stopped"); break;
                case 6: call("discord"); break;
                case 7: call("sounds", any(0, 2)); break;
                case 8: case 9:
                    int hours = random.nextInt(6) == 0 ? 12 : 1 + random.nextInt(5);
                    int told = random.nextInt(4) == 0 ? random.nextInt(1 << hours) : (1 << hours) - 1 << random.nextInt(3) & (1 << hours) - 1;
                    call("least", house(), random.nextInt(20) == 0 ? wild(1, 12) : hours,
                        random.nextInt(20) == 0 ? wild(0, (1 << hours) - 1) : told, any(-1, hours - 1));
                    break;
                case 10: call("rings", house()); break;
                case 11: tuning(); break;
                case 12: call("hill", random.nextInt(3) == 0 ? any(-1, 20) : random.nextInt(4) - 1); break;
                case 13: call("ask", any(0, 1)); break;
                case 14: call("chance", any(0, 127)); break;
                case 15: call("compare", any(-1, plain.now.laws.size()), any(1, 60)); break;
                case 16: call("drawn", house(), any(0, 2)); break;
                case 17: call("count", any(0, 18)); break;
                default: call("status"); break;
            }
        }

        private void tuning() {
            int h = house();
            if (h >= 0 && h < plain.now.houses.size() && random.nextInt(5) > 0) {
                call("tune", plain.now.houses.get(h).street, random.nextInt(3) == 0 ? 0 : 1 + h);
            } else {
                call("tune", any(0, 3), any(0, 8));
            }
        }

        private void overflow() {
            for (int i = 0; i < 21; i++) {
                call("feed", random.nextInt(), random.nextInt(), random.nextInt(), random.nextInt(), random.nextInt());
            }
            call("end", any(0, 400));
            call(random.nextInt(3) == 0 ? "row" : random.nextBoolean() ? "law" : "orders");
        }

        private void rowOfBytes() {
            byte[] bytes = new byte[random.nextInt(6) == 0 ? 24 + random.nextInt(10) : random.nextInt(25)];
            for (int i = 0; i < bytes.length; i++) {
                bytes[i] = (byte) random.nextInt(random.nextInt(8) == 0 ? 256 : 16);
            }
            put(bytes);
            call("row");
            call("ash");
        }

        private void text(boolean law) {
            put(texts.any(law).getBytes(java.nio.charset.StandardCharsets.ISO_8859_1));
            boolean swap = random.nextInt(40) == 0;
            call(law != swap ? "law" : "orders");
            if (random.nextInt(3) == 0) {
                call("fault");
            }
        }

        private void put(byte[] bytes) {
            int before = plain.tape.size();
            for (int i = 0; i < bytes.length; i += 20) {
                byte[] twenty = Arrays.copyOf(Arrays.copyOfRange(bytes, i, Math.min(bytes.length, i + 20)), 20);
                int[] five = new int[5];
                for (int k = 0; k < 20; k++) {
                    five[k / 4] = five[k / 4] << 8 | twenty[k] & 255;
                }
                call("feed", five);
            }
            call("end", before + bytes.length);
            if (random.nextInt(60) == 0) {
                call("end", any(0, 400));
            }
        }

        private void call(String name, int... a) {
            if (!agreed) {
                return;
            }
            String told = name + Arrays.toString(a);
            calls.add(told);
            long got = Calls.of(real, name, a);
            long due = plain.answer(name, a);
            if (got != due) {
                agreed = false;
                wrong++;
                System.out.println("seed " + seed + ", call " + calls.size() + ": " + told + " answered " + got + ", due is " + due);
                if (wrong == 1) {
                    System.out.println(calls);
                    System.out.println(texts.made);
                }
            }
        }
    }

    /** A call by its name. */
    private static final class Calls {
        static long of(SmokeTune x, String name, int[] a) {
            switch (name) {
                case "house": return x.house(a[0], a[1], a[2], a[3], a[4]);
                case "of": return x.of(a[0], a[1]);
                case "score": return x.score(a[0], a[1]);
                case "chord": return x.chord(a[0]);
                case "terms": return x.terms(a[0], a[1]);
                case "feed": return x.feed(a[0], a[1], a[2], a[3], a[4]);
                case "end": return x.end(a[0]);
                case "row": return x.row();
                case "ash": return x.ash();
                case "law": return x.law();
                case "orders": return x.orders();
                case "fault": return x.fault();
                case "stopped": return x.stopped();
                case "force": return x.force(a[0]);
                case "discord": return x.discord();
                case "sounds": return x.sounds(a[0]);
                case "stoke": return x.stoke(a[0]);
                case "damp": return x.damp(a[0], a[1]);
                case "buy": return x.buy(a[0], a[1]);
                case "pass": return x.pass();
                case "undo": return x.undo();
                case "least": return x.least(a[0], a[1], a[2], a[3]);
                case "rings": return x.rings(a[0]);
                case "tune": return x.tune(a[0], a[1]);
                case "hear": return x.hear(a[0]);
                case "forget": return x.forget();
                case "hill": return x.hill(a[0]);
                case "ask": return x.ask(a[0]);
                case "chance": return x.chance(a[0]);
                case "compare": return x.compare(a[0], a[1]);
                case "days": return x.days(a[0], a[1]);
                case "drawn": return x.drawn(a[0], a[1]);
                case "image": return x.image(a[0]);
                case "back": return x.back(a[0]);
                case "count": return x.count(a[0]);
                case "status": return x.status();
                default: throw new IllegalArgumentException(name);
            }
        }
    }

    /** Texts by the grammar, some of them spoilt. */
    private static final class Texts {
        private final Random random;
        private final StringBuilder text = new StringBuilder();
        final List<String> made = new ArrayList<>();
        private boolean law;

        Texts(Random random) {
            this.random = random;
        }

        String any(boolean asLaw) {
            law = asLaw;
            text.setLength(0);
            int clauses = random.nextInt(12) == 0 ? 11 + random.nextInt(3) : 1 + random.nextInt(4);
            for (int i = 0; i < clauses; i++) {
                if (i > 0) {
                    token(";");
                }
                clause(clauses > 6);
            }
            String whole = text.toString();
            if (random.nextInt(5) == 0) {
                whole = spoilt(whole);
            }
            if (whole.length() > 400) {
                whole = whole.substring(0, 300 + random.nextInt(101));
            }
            made.add(whole);
            return whole;
        }

        private String spoilt(String whole) {
            StringBuilder s = new StringBuilder(whole);
            String[] bits = {";", "(", ")", "[", "]", "<", "=", "+", "*", " ", "1001", "1000", "9", "not ", "and", "or ", "if ", "by ", "times 3", "times 0",
                "fire", "coal 7", "sounds 7", "\u00e9", "A", "\n", "burns", "stoke", "pass", "x"};
            int times = 1 + random.nextInt(2);
            for (int i = 0; i < times; i++) {
                int at = random.nextInt(s.length() + 1);
                int kind = random.nextInt(3);
                if (kind == 0 && at < s.length()) {
                    s.deleteCharAt(at);
                } else if (kind == 1) {
                    s.setLength(at);
                } else {
                    s.insert(at, bits[random.nextInt(bits.length)]);
                }
            }
            return s.toString();
        }

        private void token(String t) {
            char last = text.length() == 0 ? ' ' : text.charAt(text.length() - 1);
            boolean glued = Character.isLetter(last) && Character.isLetter(t.charAt(0)) || Character.isDigit(last) && Character.isDigit(t.charAt(0));
            if (glued || random.nextInt(4) == 0) {
                text.append(' ');
            }
            text.append(t);
        }

        private void clause(boolean brief) {
            if (law) {
                String[] verbs = {"burns", "flares", "fines", "bars"};
                int verb = random.nextInt(4);
                token(verbs[verb]);
                if (verb < 3) {
                    sum(brief ? 0 : 2);
                }
            } else {
                String[] verbs = {"stoke", "damp", "buy", "pass"};
                int verb = random.nextInt(4);
                token(verbs[verb]);
                if (verb < 3) {
                    if (random.nextInt(4) == 0) {
                        sum(1);
                    } else {
                        token("" + random.nextInt(random.nextInt(5) == 0 ? 9 : 3));
                    }
                }
                if (verb == 1 || verb == 2) {
                    token("by");
                    if (random.nextInt(3) == 0) {
                        sum(1);
                    } else {
                        token("" + (1 + random.nextInt(verb == 1 ? 20 : 30)));
                    }
                }
                if (random.nextInt(4) == 0) {
                    token("times");
                    token("" + (1 + random.nextInt(random.nextInt(5) == 0 ? 20 : 4)));
                }
            }
            if (random.nextInt(brief ? 4 : 2) == 0) {
                token("if");
                test(brief ? 0 : 3);
            }
        }

        private void test(int depth) {
            plain(depth);
            while (random.nextInt(3) == 0) {
                token(random.nextBoolean() ? "or" : "and");
                plain(depth);
            }
        }

        private void plain(int depth) {
            while (random.nextInt(6) == 0) {
                token("not");
            }
            if (depth > 0 && random.nextInt(4) == 0) {
                int nested = random.nextInt(25) == 0 ? 7 + random.nextInt(3) : 1;
                for (int i = 0; i < nested; i++) {
                    token("(");
                }
                test(depth - 1);
                for (int i = 0; i < nested; i++) {
                    token(")");
                }
            } else {
                sum(depth > 0 ? 1 : 0);
                token(random.nextInt(3) == 0 ? "=" : random.nextBoolean() ? "<" : ">");
                sum(depth > 0 ? 1 : 0);
            }
        }

        private void sum(int depth) {
            part(depth);
            while (random.nextInt(3) == 0) {
                token("" + "+-*/%".charAt(random.nextInt(5)));
                part(depth);
            }
        }

        private void part(int depth) {
            int kind = random.nextInt(10);
            if (kind < 4) {
                int most = new int[] {4, 12, 25, 1001}[random.nextInt(4)];
                token((random.nextInt(30) == 0 ? "00" : "") + random.nextInt(most));
            } else if (kind == 4 && depth > 0) {
                int nested = random.nextInt(25) == 0 ? 7 + random.nextInt(3) : 1;
                for (int i = 0; i < nested; i++) {
                    token("[");
                }
                sum(depth - 1);
                for (int i = 0; i < nested; i++) {
                    token("]");
                }
            } else if (kind == 5 && random.nextInt(6) == 0) {
                token("1000*1000*" + (random.nextBoolean() ? "1000" : "1001"));
            } else if (law) {
                String[] words = {"house", "note", "street", "fire", "coal", "hour", "day", "mood", "other"};
                token(words[random.nextInt(9)]);
            } else {
                String[] words = {"hour", "day", "fines", "done", "met"};
                int which = random.nextInt(8);
                if (which < 5) {
                    token(words[which]);
                } else {
                    token(new String[] {"fire", "coal", "sounds"}[which - 5]);
                    token("" + random.nextInt(random.nextInt(20) == 0 ? 9 : which == 7 ? 7 : 8));
                }
            }
        }
    }

    /** A place in a text that can't be. */
    private static final class Fault extends RuntimeException {
        private static final long serialVersionUID = 1L;
        final int place;

        Fault(int place) {
            super(null, null, false, false);
            this.place = place;
        }
    }

    /** What a sum can't tell. */
    private static final class Broken extends RuntimeException {
        private static final long serialVersionUID = 1L;

        Broken() {
            super(null, null, false, false);
        }
    }

    /** A tree of a sum or a test. */
    private static final class Node {
        final String kind;
        final long value;
        final Node left;
        final Node right;

        Node(String kind, long value, Node left, Node right) {
            this.kind = kind;
            this.value = value;
            this.left = left;
            this.right = right;
        }

        long eval(Words words) {
            switch (kind) {
                case "number": return value;
                case "and": return left.eval(words) == 0 ? 0 : right.eval(words);
                case "or": return left.eval(words) != 0 ? 1 : right.eval(words);
                case "not": return left.eval(words) == 0 ? 1 : 0;
                default: break;
            }
            if (left == null) {
                return words.tell(kind, (int) value);
            }
            long a = left.eval(words);
            long b = right.eval(words);
            long c;
            switch (kind) {
                case "+": c = a + b; break;
                case "-": c = a - b; break;
                case "*": c = a * b; break;
                case "<": c = a < b ? 1 : 0; break;
                case ">": c = a > b ? 1 : 0; break;
                case "=": c = a == b ? 1 : 0; break;
                default:
                    if (b == 0) {
                        throw new Broken();
                    }
                    c = kind.equals("/") ? a / b : a - a / b * b;
            }
            if (Math.abs(c) > 1_000_000_000L) {
                throw new Broken();
            }
            return c;
        }
    }

    /** What words tell. */
    private interface Words {
        long tell(String word, int number);
    }

    private static final class Clause {
        String verb;
        Node first;
        Node second;
        int times = 1;
        Node test;
    }

    /** A reader of tokens told as texts with places. */
    private static final class Parser {
        private final List<String> tokens = new ArrayList<>();
        private final List<Integer> places = new ArrayList<>();
        private final boolean law;
        private int at = 0;
        private int parts = 0;

        Parser(String text, boolean law) {
            this.law = law;
            java.util.regex.Matcher m = java.util.regex.Pattern.compile("[a-z]+|[0-9]+|[^ ]", java.util.regex.Pattern.DOTALL).matcher(text);
            while (m.find()) {
                tokens.add(m.group());
                places.add(m.start());
            }
            tokens.add("");
            places.add(text.length());
        }

        private String look() {
            return tokens.get(at);
        }

        private Fault fault() {
            return new Fault(places.get(at));
        }

        private void need(String token) {
            if (!look().equals(token)) {
                throw fault();
            }
            at++;
        }

        private boolean take(String token) {
            boolean is = look().equals(token);
            at += is ? 1 : 0;
            return is;
        }

        List<Clause> text() {
            List<Clause> all = new ArrayList<>();
            do {
                if (all.size() == 12) {
                    throw fault();
                }
                all.add(clause());
            } while (take(";"));
            if (!look().isEmpty()) {
                throw fault();
            }
            return all;
        }

        private Clause clause() {
            Clause c = new Clause();
            List<String> verbs = law ? List.of("burns", "flares", "fines", "bars") : List.of("stoke", "damp", "buy", "pass");
            if (!verbs.contains(look())) {
                throw fault();
            }
            c.verb = look();
            at++;
            if (!c.verb.equals("bars") && !c.verb.equals("pass")) {
                c.first = sum(0);
            }
            if (c.verb.equals("damp") || c.verb.equals("buy")) {
                need("by");
                c.second = sum(0);
            }
            if (!law && take("times")) {
                c.times = number(1, 20);
            }
            if (take("if")) {
                c.test = test(0);
            }
            return c;
        }

        private int number(int least, int most) {
            if (!look().matches("[0-9]+")) {
                throw fault();
            }
            java.math.BigInteger value = new java.math.BigInteger(look());
            if (value.compareTo(java.math.BigInteger.valueOf(most)) > 0 || value.intValue() < least) {
                throw fault();
            }
            at++;
            return value.intValue();
        }

        private Node test(int open) {
            Node left = both(open);
            while (take("or")) {
                left = new Node("or", 0, left, both(open));
            }
            return left;
        }

        private Node both(int open) {
            Node left = plain(open);
            while (take("and")) {
                left = new Node("and", 0, left, plain(open));
            }
            return left;
        }

        private Node plain(int open) {
            if (take("not")) {
                return new Node("not", 0, plain(open), null);
            }
            if (look().equals("(")) {
                if (open == 8) {
                    throw fault();
                }
                at++;
                Node inside = test(open + 1);
                need(")");
                return inside;
            }
            Node left = sum(open);
            String sign = look();
            if (!sign.equals("<") && !sign.equals(">") && !sign.equals("=")) {
                throw fault();
            }
            at++;
            return new Node(sign, 0, left, sum(open));
        }

        private Node sum(int open) {
            Node left = term(open);
            while (look().equals("+") || look().equals("-")) {
                String sign = look();
                at++;
                left = new Node(sign, 0, left, term(open));
            }
            return left;
        }

        private Node term(int open) {
            Node left = part(open);
            while (look().equals("*") || look().equals("/") || look().equals("%")) {
                String sign = look();
                at++;
                left = new Node(sign, 0, left, part(open));
            }
            return left;
        }

        private Node part(int open) {
            if (look().equals("[")) {
                if (open == 8) {
                    throw fault();
                }
                at++;
                Node inside = sum(open + 1);
                need("]");
                return inside;
            }
            if (parts == 50) {
                throw fault();
            }
            if (look().matches("[0-9]+")) {
                Node n = new Node("number", number(0, 1000), null, null);
                parts++;
                return n;
            }
            List<String> words = law ? Arrays.asList("house", "note", "street", "fire", "coal", "hour", "day", "mood", "other")
                : Arrays.asList("hour", "day", "fines", "done", "met", "fire", "coal", "sounds");
            String word = look();
            if (!words.contains(word)) {
                throw fault();
            }
            at++;
            parts++;
            boolean numbered = !law && List.of("fire", "coal", "sounds").contains(word);
            return new Node(word, numbered ? number(0, word.equals("sounds") ? 6 : 7) : 0, null, null);
        }
    }

    private static final class House {
        int note, street, coal, dinner, wanted, fire, warmth;

        House copy() {
            House h = new House();
            h.note = note;
            h.street = street;
            h.coal = coal;
            h.dinner = dinner;
            h.wanted = wanted;
            h.fire = fire;
            h.warmth = warmth;
            return h;
        }
    }

    /** A town as it stands. */
    private static final class State {
        List<House> houses = new ArrayList<>();
        int[] score = new int[24];
        int[] terms = {0, 0, 3, 12, 3, 0};
        List<List<Clause>> laws = new ArrayList<>();
        int force = -1;
        int fines = 0;
        List<Integer> heard = new ArrayList<>();

        State copy() {
            State s = new State();
            for (House h : houses) {
                s.houses.add(h.copy());
            }
            s.score = score.clone();
            s.terms = terms.clone();
            s.laws = new ArrayList<>(laws);
            s.force = force;
            s.fines = fines;
            s.heard = new ArrayList<>(heard);
            return s;
        }

        boolean sounds(House h) {
            return sounding(h.fire);
        }

        boolean sounding(int fire) {
            return terms[2] <= fire && fire <= terms[3];
        }

        List<Clause> lawInForce() {
            return force < 0 ? List.of() : laws.get(force);
        }

        /** What a law tells of a house with that fire, t hours from now; other is a note or -1. */
        int told(List<Clause> law, String verb, int house, int fire, int t, int other) {
            House h = houses.get(house);
            Words words = (word, number) -> {
                switch (word) {
                    case "house": return house;
                    case "note": return h.note;
                    case "street": return h.street;
                    case "fire": return fire;
                    case "coal": return h.coal;
                    case "hour": return (terms[0] + t) % 24;
                    case "day": return terms[1] + (terms[0] + t) / 24;
                    case "mood": return terms[5];
                    default: return other;
                }
            };
            long value = verb.equals("flares") ? 4 : verb.equals("bars") ? 0 : 1;
            for (Clause c : law) {
                if (c.verb.equals(verb)) {
                    try {
                        if (c.test == null || c.test.eval(words) != 0) {
                            value = c.first == null ? 1 : c.first.eval(words);
                        }
                    } catch (Broken b) {
                        continue;
                    }
                }
            }
            return (int) Math.max(0, Math.min(verb.equals("fines") ? 999 : 20, value));
        }

        int notes() {
            int bits = 0;
            for (House h : houses) {
                if (sounds(h)) {
                    bits |= 1 << h.note;
                }
            }
            return bits;
        }

        int discord() {
            int sum = 0;
            for (int i = 0; i < houses.size(); i++) {
                for (int j = i + 1; j < houses.size(); j++) {
                    House a = houses.get(i);
                    House b = houses.get(j);
                    boolean beside = (a.note + 1) % 7 == b.note || (b.note + 1) % 7 == a.note;
                    if (a.street == b.street && beside && sounds(a) && sounds(b)) {
                        sum += told(lawInForce(), "fines", i, a.fire, 0, b.note);
                    }
                }
            }
            return sum;
        }

        boolean met() {
            return (score[terms[0]] & ~notes()) == 0;
        }

        int stoke(int house) {
            if (house < 0 || house >= houses.size()) {
                return -2;
            }
            House h = houses.get(house);
            if (h.coal == 0 || told(lawInForce(), "bars", house, h.fire, 0, -1) == 1) {
                return -3;
            }
            int by = told(lawInForce(), "flares", house, h.fire, 0, -1);
            h.coal--;
            h.fire = Math.min(20, h.fire + by);
            return h.fire;
        }

        int damp(int house, long by) {
            if (by < 1 || by > 20) {
                return -1;
            }
            if (house < 0 || house >= houses.size()) {
                return -2;
            }
            House h = houses.get(house);
            h.fire = (int) Math.max(0, h.fire - by);
            return h.fire;
        }

        int buy(int house, long coal) {
            if (coal < 1 || coal > 999) {
                return -1;
            }
            if (house < 0 || house >= houses.size()) {
                return -2;
            }
            House h = houses.get(house);
            h.coal = (int) Math.min(999, h.coal + coal);
            return h.coal;
        }

        int pass() {
            if (terms[0] == 23 && terms[1] == 999) {
                return -3;
            }
            int met = met() ? 1 : 0;
            fines = Math.min(99_999, fines + discord());
            int[] burns = new int[houses.size()];
            for (int i = 0; i < burns.length; i++) {
                burns[i] = told(lawInForce(), "burns", i, houses.get(i).fire, 0, -1);
            }
            for (int i = 0; i < burns.length; i++) {
                House h = houses.get(i);
                h.warmth = Math.min(9_999, h.warmth + h.fire);
                h.fire = Math.max(0, h.fire - burns[i]);
            }
            terms[0]++;
            if (terms[0] == 24) {
                terms[0] = 0;
                terms[1]++;
            }
            return met;
        }
    }

    /** The document, call by call. */
    private static final class Oracle {
        State now = new State();
        final State[] images = new State[2];
        List<Integer> tape = new ArrayList<>();
        int ash = 0;
        int fault = -1;
        int stopped = -1;
        int status = 0;
        final int[] refused = new int[7];
        // what stood ahead of each act, and its kind
        List<State> past = new ArrayList<>();
        List<Integer> kinds = new ArrayList<>();
        State days = null;
        int daysFines = 0;
        int bestCost;
        int[] bestRow;

        int someNotes(int random) {
            int notes = 0;
            for (int i = 0; i < now.houses.size(); i++) {
                if ((random >> i & 1) == 1) {
                    notes |= 1 << now.houses.get(i).note;
                }
            }
            return notes;
        }

        long answer(String name, int[] a) {
            switch (name) {
                case "house": return told(house(a));
                case "of": return of(a[0], a[1]);
                case "score": return told(score(a[0], a[1]));
                case "chord": return a[0] < 0 || a[0] > 23 ? -1 : now.score[a[0]];
                case "terms": return told(terms(a[0], a[1]));
                case "feed": return feed(a);
                case "end": return end(a[0]);
                case "row": return told(row());
                case "ash": return ash;
                case "law": return told(law());
                case "orders": return told(orders());
                case "fault": return fault;
                case "stopped": return stopped;
                case "force": return force(a[0]);
                case "discord": return now.discord();
                case "sounds": return sounds(a[0]);
                case "stoke": return told(act(0, a[0], 0));
                case "damp": return told(act(1, a[0], a[1]));
                case "buy": return told(act(2, a[0], a[1]));
                case "pass": return told(act(3, 0, 0));
                case "undo": return told(undo());
                case "least": return least(a[0], a[1], a[2], a[3]);
                case "rings": return rings(a[0]);
                case "tune": return tune(a[0], a[1]);
                case "hear": return told(hear(a[0]));
                case "forget": return forget();
                case "hill": return hill(a[0]);
                case "ask": return ask(a[0]);
                case "chance": return chance(a[0]);
                case "compare": return compare(a[0], a[1]);
                case "days": return told(days(a[0], a[1]));
                case "drawn": return drawn(a[0], a[1]);
                case "image": return told(image(a[0]));
                case "back": return told(back(a[0]));
                case "count": return count(a[0]);
                case "status": return status;
                default: throw new IllegalArgumentException(name);
            }
        }

        private int told(int answer) {
            status = Math.min(0, answer);
            if (answer < 0) {
                refused[-answer]++;
            }
            return answer;
        }

        private int house(int[] a) {
            int[] most = {6, 3, 999, 7, 7};
            for (int i = 0; i < 5; i++) {
                if (a[i] < 0 || a[i] > most[i]) {
                    return -1;
                }
            }
            for (House h : now.houses) {
                if (h.dinner == a[3]) {
                    return -3;
                }
            }
            House h = new House();
            h.note = a[0];
            h.street = a[1];
            h.coal = a[2];
            h.dinner = a[3];
            h.wanted = a[4];
            now.houses.add(h);
            past.clear();
            kinds.clear();
            return now.houses.size() - 1;
        }

        private int of(int house, int what) {
            if (house < 0 || house >= now.houses.size()) {
                return -1;
            }
            House h = now.houses.get(house);
            switch (what) {
                case 0: return h.note;
                case 1: return h.street;
                case 2: return h.coal;
                case 3: return h.dinner;
                case 4: return h.wanted;
                case 5: return h.fire;
                case 6: return h.warmth;
                case 7: return now.sounds(h) ? 1 : 0;
                case 8: return now.told(now.lawInForce(), "burns", house, h.fire, 0, -1);
                case 9: return now.told(now.lawInForce(), "flares", house, h.fire, 0, -1);
                case 10: return now.told(now.lawInForce(), "bars", house, h.fire, 0, -1);
                default: return -1;
            }
        }

        private int score(int hour, int notes) {
            if (hour < 0 || hour > 23 || notes < 0 || notes > 127) {
                return -1;
            }
            int was = now.score[hour];
            now.score[hour] = notes;
            return was;
        }

        private int terms(int what, int value) {
            int[] least = {0, 0, 1, 1, 0, 0};
            int[] most = {23, 999, 20, 20, 10, 9};
            if (what < 0 || what > 5 || value < least[what] || value > most[what]) {
                return -1;
            }
            int was = now.terms[what];
            now.terms[what] = value;
            past.clear();
            kinds.clear();
            return was;
        }

        private int feed(int[] five) {
            if (tape.size() > 380) {
                return -1;
            }
            for (int i = 0; i < 20; i++) {
                tape.add(five[i / 4] >>> 24 - 8 * (i % 4) & 255);
            }
            return tape.size();
        }

        private int end(int n) {
            if (n < 0 || n > tape.size()) {
                return -1;
            }
            tape = new ArrayList<>(tape.subList(0, n));
            return n;
        }

        private int row() {
            if (tape.isEmpty()) {
                return -6;
            }
            ash = 0;
            for (int i = 0; i < tape.size(); i++) {
                if (i > 23 || tape.get(i) > 127) {
                    ash++;
                } else {
                    now.score[i] = tape.get(i);
                }
            }
            int told = tape.size() - ash;
            tape.clear();
            return told;
        }

        private List<Clause> parse(boolean law) {
            StringBuilder text = new StringBuilder();
            for (int b : tape) {
                text.append((char) b);
            }
            tape.clear();
            try {
                List<Clause> all = new Parser(text.toString(), law).text();
                fault = -1;
                return all;
            } catch (Fault f) {
                fault = f.place;
                return null;
            }
        }

        private int law() {
            if (now.laws.size() == 6) {
                tape.clear();
                return -5;
            }
            List<Clause> all = parse(true);
            if (all == null) {
                return -6;
            }
            now.laws.add(all);
            return now.laws.size() - 1;
        }

        private int orders() {
            stopped = -1;
            List<Clause> all = parse(false);
            if (all == null) {
                return -6;
            }
            State ahead = now.copy();
            List<State> aheadPast = new ArrayList<>(past);
            List<Integer> aheadKinds = new ArrayList<>(kinds);
            int[] doneMet = {0, -1};
            for (int i = 0; i < all.size(); i++) {
                for (int n = 0; n < all.get(i).times; n++) {
                    if (!order(all.get(i), doneMet)) {
                        now = ahead;
                        past = aheadPast;
                        kinds = aheadKinds;
                        stopped = i;
                        return -3;
                    }
                }
            }
            return doneMet[0];
        }

        private boolean order(Clause c, int[] doneMet) {
            Words words = (word, number) -> {
                switch (word) {
                    case "hour": return now.terms[0];
                    case "day": return now.terms[1];
                    case "fines": return now.fines;
                    case "done": return doneMet[0];
                    case "met": return doneMet[1];
                    case "fire": return number < now.houses.size() ? now.houses.get(number).fire : -1;
                    case "coal": return number < now.houses.size() ? now.houses.get(number).coal : -1;
                    default: return now.houses.stream().filter(h -> h.note == number && now.sounds(h)).count();
                }
            };
            try {
                if (c.test != null && c.test.eval(words) == 0) {
                    return true;
                }
            } catch (Broken b) {
                return true;
            }
            long house = 0;
            long by = 0;
            try {
                house = c.first == null ? 0 : c.first.eval(words);
                by = c.second == null ? 0 : c.second.eval(words);
            } catch (Broken b) {
                return false;
            }
            int kind = List.of("stoke", "damp", "buy", "pass").indexOf(c.verb);
            int answer = act(kind, (int) house, (int) by);
            if (answer < 0) {
                return false;
            }
            doneMet[0]++;
            doneMet[1] = kind == 3 ? answer : doneMet[1];
            return true;
        }

        private int force(int law) {
            if (law != -1 && (law < 0 || law >= now.laws.size())) {
                return told(-2);
            }
            int was = now.force;
            now.force = law;
            status = 0;
            return was;
        }

        private int sounds(int what) {
            if (what == 0) {
                return now.notes();
            }
            if (what == 1) {
                int chords = 0;
                for (int n = 0; n < 7; n++) {
                    boolean all = true;
                    for (int k = 0; k < 3; k++) {
                        all &= (now.notes() >> (n + 2 * k) % 7 & 1) == 1;
                    }
                    chords += all ? 1 : 0;
                }
                return chords;
            }
            return what == 2 ? now.met() ? 1 : 0 : -1;
        }

        private int act(int kind, int house, int by) {
            State ahead = now.copy();
            int answer = kind == 0 ? now.stoke(house) : kind == 1 ? now.damp(house, by) : kind == 2 ? now.buy(house, by) : now.pass();
            if (answer >= 0) {
                past.add(ahead);
                kinds.add(kind);
                if (past.size() > 16) {
                    past.remove(0);
                    kinds.remove(0);
                }
            }
            return answer;
        }

        private int undo() {
            if (past.isEmpty()) {
                return -3;
            }
            State was = past.remove(past.size() - 1);
            for (int i = 0; i < was.houses.size(); i++) {
                now.houses.get(i).fire = was.houses.get(i).fire;
                now.houses.get(i).coal = was.houses.get(i).coal;
                now.houses.get(i).warmth = was.houses.get(i).warmth;
            }
            now.fines = was.fines;
            now.terms[0] = was.terms[0];
            now.terms[1] = was.terms[1];
            return kinds.remove(kinds.size() - 1);
        }

        private int least(int house, int n, int hours, int i) {
            if (house < 0 || house >= now.houses.size() || n < 1 || n > 12 || hours < 0 || hours >= 1 << n || i < -1 || i >= n) {
                return -1;
            }
            bestCost = 1000;
            bestRow = null;
            tryRows(house, n, hours, 0, now.houses.get(house).fire, 0, new int[n]);
            return bestRow == null ? -1 : i == -1 ? bestCost : bestRow[i];
        }

        private void tryRows(int house, int n, int hours, int t, int fire, int cost, int[] row) {
            if (cost >= bestCost) {
                return;
            }
            if (t == n) {
                bestCost = cost;
                bestRow = row.clone();
                return;
            }
            int f = fire;
            for (int s = 0; s < 3; s++) {
                if (s > 0) {
                    if (now.told(now.lawInForce(), "bars", house, f, t, -1) == 1) {
                        return;
                    }
                    f = Math.min(20, f + now.told(now.lawInForce(), "flares", house, f, t, -1));
                }
                if (now.sounding(f) == ((hours >> t & 1) == 1)) {
                    row[t] = s;
                    int burnt = Math.max(0, f - now.told(now.lawInForce(), "burns", house, f, t, -1));
                    tryRows(house, n, hours, t + 1, burnt, cost + s, row);
                }
            }
        }

        private int rings(int house) {
            int n = now.houses.size();
            if (house < 0 || house >= n) {
                return -1;
            }
            int[] has = new int[n];
            boolean[] out = new boolean[n];
            for (int round = 0; round < n; round++) {
                int[] to = new int[n];
                for (int h = 0; h < n; h++) {
                    to[h] = -1;
                    for (int d = 0; d < 15 && !out[h] && to[h] < 0; d++) {
                        int wanted = now.houses.get(h).wanted;
                        // 0 away, 1 below, 1 above, 2 below ..
                        int dinner = d % 2 == 1 ? wanted - (d + 1) / 2 : wanted + d / 2;
                        for (int k = 0; k < n; k++) {
                            if (!out[k] && now.houses.get(k).dinner == dinner) {
                                to[h] = k;
                            }
                        }
                    }
                }
                boolean[] ring = new boolean[n];
                for (int h = 0; h < n; h++) {
                    if (!out[h]) {
                        int k = to[h];
                        for (int step = 0; step < n && k != h; step++) {
                            k = to[k];
                        }
                        ring[h] = k == h;
                    }
                }
                for (int h = 0; h < n; h++) {
                    if (ring[h]) {
                        has[h] = now.houses.get(to[h]).dinner;
                        out[h] = true;
                    }
                }
            }
            return has[house];
        }

        private int tune(int street, int what) {
            if (street < 0 || street > 3 || what < 0 || what > now.houses.size()) {
                return -1;
            }
            if (what > 0 && now.houses.get(what - 1).street != street) {
                return -1;
            }
            bestCost = 1000;
            bestRow = null;
            tryNotes(street, 0, 0, new int[now.houses.size()]);
            return what == 0 ? bestCost : bestRow[what - 1];
        }

        private void tryNotes(int street, int h, int cost, int[] row) {
            if (cost >= bestCost) {
                return;
            }
            if (h == row.length) {
                bestCost = cost;
                bestRow = row.clone();
                return;
            }
            House house = now.houses.get(h);
            if (house.street != street) {
                tryNotes(street, h + 1, cost, row);
                return;
            }
            for (int note = 0; note < 7; note++) {
                boolean agrees = true;
                for (int k = 0; k < h; k++) {
                    int apart = Math.floorMod(row[k] - note, 7);
                    agrees &= now.houses.get(k).street != street || apart != 1 && apart != 6;
                }
                if (agrees) {
                    row[h] = note;
                    int up = Math.floorMod(note - house.note, 7);
                    tryNotes(street, h + 1, cost + Math.min(up, 7 - up), row);
                }
            }
        }

        private int hear(int notes) {
            if (notes < 0 || notes > 127) {
                return -1;
            }
            if (now.heard.size() == 6) {
                return -5;
            }
            now.heard.add(notes);
            return now.heard.size();
        }

        private int forget() {
            int was = now.heard.size();
            now.heard.clear();
            return was;
        }

        private List<Integer> sets() {
            int ever = 0;
            for (int notes : now.heard) {
                ever |= notes;
            }
            List<Integer> all = new ArrayList<>();
            for (int set = 0; set < 1 << now.houses.size(); set++) {
                boolean fits = true;
                for (int note = 0; note < 7; note++) {
                    boolean burns = false;
                    for (int h = 0; h < now.houses.size(); h++) {
                        burns |= (set >> h & 1) == 1 && now.houses.get(h).note == note;
                    }
                    fits &= burns == ((ever >> note & 1) == 1);
                }
                if (fits) {
                    all.add(set);
                }
            }
            return all;
        }

        private int hill(int i) {
            List<Integer> all = sets();
            return i == -1 ? all.size() : i < 0 || i >= all.size() ? -1 : all.get(i);
        }

        private int ask(int what) {
            List<Integer> all = sets();
            if (all.isEmpty() || now.houses.isEmpty() || what < 0 || what > 1) {
                return -1;
            }
            int best = -1;
            int least = 0;
            for (int h = 0; h < now.houses.size(); h++) {
                int house = h;
                int burns = (int) all.stream().filter(set -> (set >> house & 1) == 1).count();
                int more = Math.max(burns, all.size() - burns);
                if (best < 0 || more < least) {
                    best = h;
                    least = more;
                }
            }
            return what == 0 ? best : least;
        }

        private long chance(int notes) {
            if (notes < 0 || notes > 127) {
                return -1;
            }
            long p = 1_000_000_000_000L;
            for (int note = 0; note < 7; note++) {
                if ((notes >> note & 1) == 1) {
                    long muted = p;
                    for (House h : now.houses) {
                        if (h.note == note && now.sounds(h)) {
                            muted = muted * now.terms[4] / 10;
                        }
                    }
                    p -= muted;
                }
            }
            return p;
        }

        private int compare(int law, int n) {
            if (law < -1 || law >= now.laws.size() || n < 1 || n > 60) {
                return -1;
            }
            List<Clause> by = law == -1 ? List.of() : now.laws.get(law);
            int coal = 0;
            for (int h = 0; h < now.houses.size(); h++) {
                int fire = now.houses.get(h).fire;
                for (int t = 0; t < n; t++) {
                    if (fire < now.terms[2]) {
                        coal++;
                        fire = Math.min(20, fire + now.told(by, "flares", h, fire, t, -1));
                    }
                    fire = Math.max(0, fire - now.told(by, "burns", h, fire, t, -1));
                }
            }
            return coal;
        }

        private int days(int seed, int n) {
            if (seed < 0 || seed > 1_000_000 || n < 1 || n > 100) {
                return -1;
            }
            days = now.copy();
            long s = seed;
            int met = 0;
            for (int t = 0; t < n; t++) {
                if (!days.houses.isEmpty()) {
                    s = (s * 1103 + 12345) % 1_000_003;
                    days.stoke((int) (s % days.houses.size()));
                }
                int passed = days.pass();
                if (passed < 0) {
                    break;
                }
                met += passed;
            }
            daysFines = days.fines - now.fines;
            return met;
        }

        private int drawn(int k, int what) {
            if (days == null || what < 0 || what > 2) {
                return -1;
            }
            if (what == 2) {
                return daysFines;
            }
            if (k < 0 || k >= days.houses.size()) {
                return -1;
            }
            return what == 0 ? days.houses.get(k).fire : days.houses.get(k).coal;
        }

        private int image(int k) {
            if (k != 0 && k != 1) {
                return -1;
            }
            images[k] = now.copy();
            return 0;
        }

        private int back(int k) {
            if (k != 0 && k != 1) {
                return -1;
            }
            if (images[k] == null) {
                return -2;
            }
            now = images[k].copy();
            past.clear();
            kinds.clear();
            return 0;
        }

        private int count(int what) {
            switch (what) {
                case 0: return now.houses.size();
                case 1: return (int) now.houses.stream().filter(now::sounds).count();
                case 2: return now.heard.size();
                case 3: return now.laws.size();
                case 4: return past.size();
                case 5: return tape.size();
                case 6: return refused[1];
                case 7: return refused[2];
                case 8: return refused[3];
                case 9: return refused[5];
                case 10: return refused[6];
                case 11: return now.force;
                case 12: return now.fines;
                default: return what >= 13 && what <= 18 ? now.terms[what - 13] : -1;
            }
        }
    }
}
