import java.util.Arrays;

/** A town whose chimneys are the pipes of an organ; the document tells each call as a numbered promise. */
public final class SmokeTune {
    public static final int NONE = -1;

    private static final int BAD_NUMBER = -1;
    private static final int NO_SUCH = -2;
    private static final int CANNOT = -3;
    private static final int NO_ROOM = -5;
    private static final int BAD_TEXT = -6;

    private static final int HOUSES = 8;
    private static final int NOTES = 7;
    private static final int STREETS = 4;
    private static final int ALL_NOTES = 127;
    private static final int HOURS = 24;
    private static final int LAST_DAY = 999;
    private static final int MOST_COAL = 999;
    private static final int MOST_FIRE = 20;
    private static final int MOST_WARMTH = 9_999;
    private static final int MOST_FINES = 99_999;
    private static final int MOST_HEARD = 6;
    private static final int MOST_LAWS = 6;
    private static final int IMAGES = 2;

    private static final int NOTE = 0;
    private static final int STREET = 1;
    private static final int COAL = 2;
    private static final int DINNER = 3;
    private static final int WANTED = 4;
    private static final int FIRE = 5;
    private static final int WARMTH = 6;
    private static final int FACTS = 7;

    private static final int HOUR = 0;
    private static final int DAY = 1;
    private static final int LOW = 2;
    private static final int HIGH = 3;
    private static final int WIND = 4;
    private static final int MOOD = 5;
    private static final int TERMS = 6;
    private static final int[] TERM_LEAST = {0, 0, 1, 1, 0, 0};
    private static final int[] TERM_MOST = {23, LAST_DAY, MOST_FIRE, MOST_FIRE, 10, 9};

    private static final int BURNS = 0;
    private static final int FLARES = 1;
    private static final int FINES = 2;
    private static final int BARS = 3;
    private static final int[] WITHOUT_LAW = {1, 4, 1, 0};
    private static final int[] MOST_BY_LAW = {MOST_FIRE, MOST_FIRE, 999, 1};

    private static final int STOKE = 0;
    private static final int DAMP = 1;
    private static final int BUY = 2;
    private static final int PASS = 3;

    private final Town town = new Town();
    private final Town[] images = {new Town(), new Town()};
    private final boolean[] imageKept = new boolean[IMAGES];
    private final Town paperTown = new Town();
    private final Reader reader = new Reader();
    private final Tape tape = reader.tape;
    private final Crew crew = new Crew();
    private final Works works = crew.works;
    private final Court court = works.court;
    private final History history = new History();
    private final Plan plan = new Plan();
    private final Paper paper = new Paper();
    private final int[] refusals = new int[5];
    private int refusedBy = 0;
    private int ashTold = 0;
    private boolean daysKept = false;
    private int daysFines = 0;

    public SmokeTune() {
    }

    public int house(int note, int street, int coal, int dinner, int wanted) {
        boolean placed = within(note, 0, NOTES - 1) && within(street, 0, STREETS - 1);
        boolean fed = within(dinner, 0, HOUSES - 1) && within(wanted, 0, HOUSES - 1);
        if (!placed || !fed || !within(coal, 0, MOST_COAL)) {
            return refuse(BAD_NUMBER);
        }
        if (town.dinerOf(dinner) != NONE) {
            return refuse(CANNOT);
        }
        if (town.houses >= HOUSES) {
            return refuse(NO_ROOM);
        }
        history.clear();
        return accept(town.build(note, street, coal, dinner, wanted));
    }

    public int of(int house, int what) {
        if (!town.has(house)) {
            return NONE;
        }
        if (within(what, 0, FACTS - 1)) {
            return town.fact(house, what);
        }
        if (what == 7) {
            return town.sings(house) ? 1 : 0;
        }
        court.face(town, house, town.fact(house, FIRE), 0);
        switch (what) {
            case 8:
                return court.told(town.lawInForce(), BURNS);
            case 9:
                return court.told(town.lawInForce(), FLARES);
            case 10:
                return court.told(town.lawInForce(), BARS);
            default:
                return NONE;
        }
    }

    public int score(int hour, int notes) {
        if (!within(hour, 0, HOURS - 1) || !within(notes, 0, ALL_NOTES)) {
            return refuse(BAD_NUMBER);
        }
        int before = town.chordAt(hour);
        town.chords[hour] = notes;
        return accept(before);
    }

    public int chord(int hour) {
        return town.chordAt(hour);
    }

    public int terms(int what, int value) {
        if (!within(what, 0, TERMS - 1) || !within(value, TERM_LEAST[what], TERM_MOST[what])) {
            return refuse(BAD_NUMBER);
        }
        int before = town.terms[what];
        town.terms[what] = value;
        history.clear();
        return accept(before);
    }

    public int feed(int a, int b, int c, int d, int e) {
        if (tape.length + 20 > Tape.ROOM) {
            return NONE;
        }
        tape.take(a);
        tape.take(b);
        tape.take(c);
        tape.take(d);
        tape.take(e);
        return tape.length;
    }

    public int end(int n) {
        if (!within(n, 0, tape.length)) {
            return NONE;
        }
        tape.length = n;
        return n;
    }

    public int row() {
        if (tape.length == 0) {
            return refuse(BAD_TEXT);
        }
        int told = 0;
        for (int i = 0; i < tape.length; i++) {
            int notes = tape.byteAt(i);
            if (i < HOURS && within(notes, 0, ALL_NOTES)) {
                town.chords[i] = notes;
                told++;
            }
        }
        ashTold = tape.length - told;
        tape.length = 0;
        return accept(told);
    }

    public int ash() {
        return ashTold;
    }

    public int law() {
        if (town.lawTotal >= MOST_LAWS) {
            tape.length = 0;
            return refuse(NO_ROOM);
        }
        if (!reader.reads(true)) {
            return refuse(BAD_TEXT);
        }
        return accept(town.enact(reader.text.trimmed()));
    }

    public int orders() {
        crew.stopped = NONE;
        if (!reader.reads(false)) {
            return refuse(BAD_TEXT);
        }
        int done = crew.carryOut(reader.text, town, history);
        return done < 0 ? refuse(done) : accept(done);
    }

    public int fault() {
        return reader.faultAt;
    }

    public int stopped() {
        return crew.stopped;
    }

    public int force(int law) {
        if (law != NONE && !within(law, 0, town.lawTotal - 1)) {
            return refuse(NO_SUCH);
        }
        int before = town.inForce;
        town.inForce = law;
        return accept(before);
    }

    public int discord() {
        return works.discords(town);
    }

    public int sounds(int what) {
        switch (what) {
            case 0:
                return town.notesNow();
            case 1:
                return town.thirdsNow();
            case 2:
                return town.meetsChord() ? 1 : 0;
            default:
                return NONE;
        }
    }

    public int stoke(int house) {
        history.draft(town);
        return settle(STOKE, works.kindle(town, house));
    }

    public int damp(int house, int by) {
        history.draft(town);
        return settle(DAMP, works.quench(town, house, by));
    }

    public int buy(int house, int coal) {
        history.draft(town);
        return settle(BUY, works.supply(town, house, coal));
    }

    public int pass() {
        history.draft(town);
        return settle(PASS, works.nextHour(town));
    }

    public int undo() {
        int kind = history.takeBack(town);
        return kind == NONE ? refuse(CANNOT) : accept(kind);
    }

    public int least(int house, int n, int hours, int i) {
        if (!town.has(house) || !within(n, 1, Plan.MOST_HOURS) || !within(hours, 0, (1 << n) - 1)) {
            return NONE;
        }
        return within(i, NONE, n - 1) ? plan.leastCoal(town, house, n, hours, i) : NONE;
    }

    public int rings(int house) {
        return town.has(house) ? paper.swapped(town, house) : NONE;
    }

    public int tune(int street, int what) {
        if (!within(street, 0, STREETS - 1)) {
            return NONE;
        }
        if (what == 0) {
            return paper.retune(town, street);
        }
        int house = within(what, 1, HOUSES) ? what - 1 : NONE;
        if (!town.has(house) || town.fact(house, STREET) != street) {
            return NONE;
        }
        paper.retune(town, street);
        return paper.tunedNote(house);
    }

    public int hear(int notes) {
        if (!within(notes, 0, ALL_NOTES)) {
            return refuse(BAD_NUMBER);
        }
        if (town.heardTimes >= MOST_HEARD) {
            return refuse(NO_ROOM);
        }
        town.heardNotes |= notes;
        town.heardTimes++;
        return accept(town.heardTimes);
    }

    public int forget() {
        int before = town.heardTimes;
        town.heardTimes = 0;
        town.heardNotes = 0;
        return before;
    }

    public int hill(int i) {
        return paper.hillSet(town, i);
    }

    public int ask(int what) {
        return within(what, 0, 1) ? paper.question(town, what) : NONE;
    }

    public long chance(int notes) {
        return within(notes, 0, ALL_NOTES) ? paper.odds(town, notes) : NONE;
    }

    public int compare(int law, int n) {
        if (!within(law, NONE, town.lawTotal - 1) || !within(n, 1, 60)) {
            return NONE;
        }
        return plan.coalBy(town, town.lawAt(law), n);
    }

    public int days(int seed, int n) {
        if (!within(seed, 0, 1_000_000) || !within(n, 1, 100)) {
            return refuse(BAD_NUMBER);
        }
        paperTown.become(town);
        int met = works.byDraws(paperTown, seed, n);
        daysFines = paperTown.fines - town.fines;
        daysKept = true;
        return accept(met);
    }

    public int drawn(int k, int what) {
        if (!daysKept) {
            return NONE;
        }
        if (what == 2) {
            return daysFines;
        }
        if (!paperTown.has(k) || !within(what, 0, 1)) {
            return NONE;
        }
        return paperTown.fact(k, what == 0 ? FIRE : COAL);
    }

    public int image(int k) {
        if (!within(k, 0, IMAGES - 1)) {
            return refuse(BAD_NUMBER);
        }
        images[k].become(town);
        imageKept[k] = true;
        return accept(0);
    }

    public int back(int k) {
        if (!within(k, 0, IMAGES - 1)) {
            return refuse(BAD_NUMBER);
        }
        if (!imageKept[k]) {
            return refuse(NO_SUCH);
        }
        town.become(images[k]);
        history.clear();
        return accept(0);
    }

    public int count(int what) {
        if (within(what, 6, 10)) {
            return refusals[what - 6];
        }
        if (within(what, 13, 18)) {
            return town.terms[what - 13];
        }
        switch (what) {
            case 0:
                return town.houses;
            case 1:
                return town.singing();
            case 2:
                return town.heardTimes;
            case 3:
                return town.lawTotal;
            case 4:
                return history.kept;
            case 5:
                return tape.length;
            case 11:
                return town.inForce;
            case 12:
                return town.fines;
            default:
                return NONE;
        }
    }

    public int status() {
        return refusedBy;
    }

    private static boolean within(int value, int least, int most) {
        return value >= least && value <= most;
    }

    private int accept(int answer) {
        refusedBy = 0;
        return answer;
    }

    private int refuse(int by) {
        // there is no refusal by -4, so -5 and -6 stand one place lower
        int place = by > -4 ? -by - 1 : -by - 2;
        if (within(place, 0, refusals.length - 1)) {
            refusals[place]++;
        }
        refusedBy = by;
        return by;
    }

    private int settle(int kind, int answer) {
        if (answer < 0) {
            return refuse(answer);
        }
        history.keep(kind);
        return accept(answer);
    }

    /** All that an image keeps. */
    private static final class Town {
        private final int[] facts = new int[FACTS * HOUSES];
        private final int[] chords = new int[HOURS];
        private final int[] terms = {0, 0, 3, 12, 3, 0};
        private final Script[] laws = new Script[MOST_LAWS];
        private int houses = 0;
        private int lawTotal = 0;
        private int inForce = NONE;
        private int fines = 0;
        private int heardTimes = 0;
        private int heardNotes = 0;

        private void become(Town other) {
            System.arraycopy(other.facts, 0, facts, 0, facts.length);
            System.arraycopy(other.chords, 0, chords, 0, chords.length);
            System.arraycopy(other.terms, 0, terms, 0, terms.length);
            for (int i = 0; i < MOST_LAWS; i++) {
                laws[i] = other.laws[i];
            }
            houses = other.houses;
            lawTotal = other.lawTotal;
            inForce = other.inForce;
            fines = other.fines;
            heardTimes = other.heardTimes;
            heardNotes = other.heardNotes;
        }

        private boolean has(int house) {
            return house >= 0 && house < houses;
        }

        private int fact(int house, int what) {
            boolean there = house >= 0 && house < HOUSES && what >= 0 && what < FACTS;
            return there ? facts[what * HOUSES + house] : NONE;
        }

        private void put(int house, int what, int value) {
            if (within(house, 0, HOUSES - 1) && within(what, 0, FACTS - 1)) {
                facts[what * HOUSES + house] = value;
            }
        }

        private int dinerOf(int dinner) {
            for (int h = 0; h < houses; h++) {
                if (fact(h, DINNER) == dinner) {
                    return h;
                }
            }
            return NONE;
        }

        private int build(int note, int street, int coal, int dinner, int wanted) {
            int house = houses;
            put(house, NOTE, note);
            put(house, STREET, street);
            put(house, COAL, coal);
            put(house, DINNER, dinner);
            put(house, WANTED, wanted);
            houses++;
            return house;
        }

        private int enact(Script law) {
            if (lawTotal >= MOST_LAWS) {
                return NONE;
            }
            laws[lawTotal] = law;
            lawTotal++;
            return lawTotal - 1;
        }

        private Script lawAt(int number) {
            return within(number, 0, lawTotal - 1) ? laws[number] : null;
        }

        private Script lawInForce() {
            return lawAt(inForce);
        }

        private boolean loud(int fire) {
            return fire >= terms[LOW] && fire <= terms[HIGH];
        }

        private boolean sings(int house) {
            return loud(fact(house, FIRE));
        }

        /** Whether two houses are in one street with notes beside each other. */
        private boolean beside(int low, int high) {
            int apart = Math.abs(fact(low, NOTE) - fact(high, NOTE));
            return fact(low, STREET) == fact(high, STREET) && (apart == 1 || apart == NOTES - 1);
        }

        private int singing() {
            int total = 0;
            for (int h = 0; h < houses; h++) {
                total += sings(h) ? 1 : 0;
            }
            return total;
        }

        private int notesNow() {
            int notes = 0;
            for (int h = 0; h < houses; h++) {
                notes |= sings(h) ? 1 << fact(h, NOTE) : 0;
            }
            return notes;
        }

        private int thirdsNow() {
            int notes = notesNow();
            int total = 0;
            for (int n = 0; n < NOTES; n++) {
                int third = 1 << n | 1 << (n + 2) % NOTES | 1 << (n + 4) % NOTES;
                total += (notes & third) == third ? 1 : 0;
            }
            return total;
        }

        private int chordAt(int hour) {
            return hour >= 0 && hour < HOURS ? chords[hour] : NONE;
        }

        private boolean meetsChord() {
            int wanted = chordAt(terms[HOUR]);
            return (notesNow() & wanted) == wanted;
        }
    }

    /** The bytes that were fed, and the token of them that is being looked at. */
    private static final class Tape {
        private static final int ROOM = 400;
        private static final int TOO_MUCH = 1_000_000;

        private final int[] bytes = new int[ROOM];
        private int length = 0;
        private int from = 0;
        private int to = 0;
        // of the token: its first byte (NONE at the end), and its number (NONE of others)
        private int first = NONE;
        private int number = NONE;

        private void take(int four) {
            for (int shift = 24; shift >= 0 && length < ROOM; shift -= 8) {
                bytes[length] = four >> shift & 255;
                length++;
            }
        }

        private int byteAt(int place) {
            return place >= 0 && place < length && place < ROOM ? bytes[place] : NONE;
        }

        /** Goes to the next token. */
        private void step() {
            from = to;
            while (from < length && bytes[from] == ' ') {
                from++;
            }
            first = from < length ? bytes[from] : NONE;
            number = first >= '0' && first <= '9' ? first - '0' : NONE;
            boolean word = first >= 'a' && first <= 'z';
            to = Math.min(length, from + 1);
            while (to < length) {
                int next = bytes[to];
                boolean digits = number != NONE && next >= '0' && next <= '9';
                boolean letters = word && next >= 'a' && next <= 'z';
                if (!digits && !letters) {
                    break;
                }
                number = digits ? Math.min(TOO_MUCH, number * 10 + next - '0') : NONE;
                to++;
            }
        }

        /** Which of the words, told with one blank between, the token is. */
        private int find(String words) {
            int place = 0;
            int same = 0;
            for (int i = 0; i <= words.length(); i++) {
                char sign = i < words.length() ? words.charAt(i) : ' ';
                if (sign != ' ') {
                    same = same >= 0 && from + same < to && bytes[from + same] == sign ? same + 1 : NONE;
                } else if (same > 0 && from + same == to) {
                    return place;
                } else {
                    place++;
                    same = 0;
                }
            }
            return NONE;
        }
    }

    /** A text that was read: its clauses, and what they ask as steps for the machine. */
    private static final class Script {
        private static final int MOST_CLAUSES = 12;
        private static final int HEAD = 5;
        private static final int VERB = 0;
        private static final int TIMES = 1;
        private static final int FIRST = 2;
        private static final int SECOND = 3;
        private static final int TEST = 4;

        private static final int STOP = 0;
        private static final int NUMBER = 1;
        private static final int WORD = 2;
        private static final int ADD = 3;
        private static final int SUBTRACT = 4;
        private static final int MULTIPLY = 5;
        private static final int DIVIDE = 6;
        private static final int REMAINDER = 7;
        private static final int LESS = 8;
        private static final int MORE = 9;
        private static final int SAME = 10;
        private static final int NOT = 11;
        private static final int SKIP_IF_SO = 12;
        private static final int SKIP_IF_NOT = 13;

        private final int[] heads;
        private final int[] code;
        private int clauses;
        private int used;

        private Script(int[] heads, int[] code, int clauses) {
            this.heads = heads;
            this.code = code;
            this.clauses = clauses;
            this.used = code.length;
        }

        private Script trimmed() {
            return new Script(Arrays.copyOf(heads, clauses * HEAD), Arrays.copyOf(code, used), clauses);
        }

        private int head(int clause, int what) {
            int at = clause * HEAD + what;
            return clause >= 0 && at >= 0 && at < heads.length ? heads[at] : NONE;
        }

        private void open(int clause, int verb) {
            setHead(clause, VERB, verb);
            setHead(clause, TIMES, 1);
            setHead(clause, FIRST, NONE);
            setHead(clause, SECOND, NONE);
            setHead(clause, TEST, NONE);
        }

        private void setHead(int clause, int what, int value) {
            int at = clause * HEAD + what;
            if (clause >= 0 && at >= 0 && at < heads.length) {
                heads[at] = value;
            }
        }

        private int emit(int step, int with) {
            if (used + 1 >= code.length) {
                return NONE;
            }
            code[used] = step;
            code[used + 1] = with;
            used += 2;
            return used - 2;
        }

        /** A skip made earlier leads to what comes next. */
        private void land(int skip) {
            if (skip >= 0 && skip + 1 < code.length) {
                code[skip + 1] = used;
            }
        }
    }

    /** Reads both languages; where it can't go on, the tape's token is the fault. */
    private static final class Reader {
        private static final int MOST_PARTS = 50;
        private static final int MOST_BRACKETS = 8;
        private static final int MOST_NUMBER = 1_000;
        private static final int MOST_TIMES = 20;
        private static final String LAW_VERBS = "burns flares fines bars";
        private static final String LAW_WORDS = "house note street fire coal hour day mood other";
        private static final String ORDER_VERBS = "stoke damp buy pass";
        private static final String ORDER_WORDS = "hour day fines done met fire coal sounds";
        private static final int[] LAW_SUMS = {1, 1, 1, 0};
        private static final int[] ORDER_SUMS = {1, 2, 2, 0};
        // of "fire", "coal", "sounds": where what they tell begins, and the most that may stand behind them
        private static final int[] TELLING_FROM = {Crew.FIRE_WORD, Crew.COAL_WORD, Crew.SOUNDS_WORD};
        private static final int[] TELLING_MOST = {HOUSES - 1, HOUSES - 1, NOTES - 1};

        private final Tape tape = new Tape();
        // each step comes of a token of its own, and has two numbers
        private final Script text = new Script(new int[Script.MOST_CLAUSES * Script.HEAD], new int[2 * Tape.ROOM], 0);
        private boolean lawful = true;
        private int parts = 0;
        private int faultAt = NONE;

        /** Whether the tape, which is empty then, is such a text. */
        private boolean reads(boolean asLaw) {
            lawful = asLaw;
            parts = 0;
            text.clauses = 0;
            text.used = 0;
            tape.to = 0;
            tape.step();
            boolean whole = false;
            for (int i = 0; i < Script.MOST_CLAUSES && !whole; i++) {
                if (!clause(i)) {
                    break;
                }
                text.clauses = i + 1;
                whole = tape.first == NONE;
                if (!whole && tape.first != ';') {
                    break;
                }
                tape.step();
            }
            faultAt = whole ? NONE : tape.from;
            tape.length = 0;
            return whole;
        }

        private boolean clause(int i) {
            int verb = tape.find(lawful ? LAW_VERBS : ORDER_VERBS);
            if (verb < 0 || verb >= LAW_SUMS.length) {
                return false;
            }
            tape.step();
            text.open(i, verb);
            int sums = lawful ? LAW_SUMS[verb] : ORDER_SUMS[verb];
            for (int n = 0; n < sums; n++) {
                if (n > 0 && !passed("by")) {
                    return false;
                }
                text.setHead(i, Script.FIRST + n, text.used);
                if (!sum(0)) {
                    return false;
                }
                text.emit(Script.STOP, 0);
            }
            if (!lawful && passed("times")) {
                if (tape.number < 1 || tape.number > MOST_TIMES) {
                    return false;
                }
                text.setHead(i, Script.TIMES, tape.number);
                tape.step();
            }
            if (!passed("if")) {
                return true;
            }
            text.setHead(i, Script.TEST, text.used);
            boolean whole = test(0);
            text.emit(Script.STOP, 0);
            return whole;
        }

        private boolean passed(String word) {
            if (tape.find(word) != 0) {
                return false;
            }
            tape.step();
            return true;
        }

        private int operator(String signs, int first) {
            for (int i = 0; i < signs.length(); i++) {
                if (tape.first == signs.charAt(i)) {
                    tape.step();
                    return first + i;
                }
            }
            return NONE;
        }

        private boolean test(int depth) {
            int andSkip = NONE;
            int orSkip = NONE;
            for (int i = 0; i <= Tape.ROOM; i++) {
                if (!plain(depth)) {
                    return false;
                }
                text.land(andSkip);
                andSkip = NONE;
                if (passed("and")) {
                    andSkip = text.emit(Script.SKIP_IF_NOT, 0);
                    continue;
                }
                text.land(orSkip);
                if (!passed("or")) {
                    return true;
                }
                orSkip = text.emit(Script.SKIP_IF_SO, 0);
            }
            return false;
        }

        private boolean plain(int depth) {
            boolean turned = false;
            for (int i = 0; i <= Tape.ROOM && passed("not"); i++) {
                turned = !turned;
            }
            if (tape.first == '(') {
                if (depth >= MOST_BRACKETS) {
                    return false;
                }
                tape.step();
                if (!test(depth + 1) || tape.first != ')') {
                    return false;
                }
                tape.step();
            } else {
                int how = sum(depth) ? operator("<>=", Script.LESS) : NONE;
                if (how == NONE || !sum(depth)) {
                    return false;
                }
                text.emit(how, 0);
            }
            if (turned) {
                text.emit(Script.NOT, 0);
            }
            return true;
        }

        private boolean sum(int depth) {
            int factor = NONE;
            int term = NONE;
            for (int i = 0; i <= Tape.ROOM; i++) {
                if (!part(depth)) {
                    return false;
                }
                if (factor != NONE) {
                    text.emit(factor, 0);
                }
                factor = operator("*/%", Script.MULTIPLY);
                if (factor != NONE) {
                    continue;
                }
                if (term != NONE) {
                    text.emit(term, 0);
                }
                term = operator("+-", Script.ADD);
                if (term == NONE) {
                    return true;
                }
            }
            return false;
        }

        private boolean part(int depth) {
            if (tape.first == '[') {
                if (depth >= MOST_BRACKETS) {
                    return false;
                }
                tape.step();
                if (!sum(depth + 1) || tape.first != ']') {
                    return false;
                }
                tape.step();
                return true;
            }
            if (parts >= MOST_PARTS || tape.number > MOST_NUMBER) {
                return false;
            }
            parts++;
            if (tape.number != NONE) {
                text.emit(Script.NUMBER, tape.number);
                tape.step();
                return true;
            }
            int word = tape.find(lawful ? LAW_WORDS : ORDER_WORDS);
            if (word == NONE) {
                return false;
            }
            tape.step();
            int telling = lawful ? NONE : word - Crew.FIRE_WORD;
            if (telling >= 0 && telling < TELLING_FROM.length) {
                if (tape.number < 0 || tape.number > TELLING_MOST[telling]) {
                    return false;
                }
                word = TELLING_FROM[telling] + tape.number;
                tape.step();
            }
            text.emit(Script.WORD, word);
            return true;
        }
    }

    /** Runs the steps of one sum or test. */
    private static final class Machine {
        private static final long MOST = 1_000_000_000L;

        private final int[] stack = new int[64];
        private boolean broken = false;

        private int run(int[] code, int start, int[] words) {
            broken = start < 0;
            int top = 0;
            int next = start;
            for (int at = start; !broken && at >= 0 && at + 1 < code.length; at = next) {
                int step = code[at];
                int with = code[at + 1];
                next = at + 2;
                if (step == Script.STOP) {
                    break;
                }
                if (step == Script.NUMBER || step == Script.WORD) {
                    boolean known = step == Script.NUMBER || with >= 0 && with < words.length;
                    broken = !known || top >= stack.length;
                    if (!broken) {
                        stack[top] = step == Script.NUMBER ? with : words[with];
                        top++;
                    }
                } else if (top < 1) {
                    broken = true;
                } else if (step == Script.NOT) {
                    stack[top - 1] = 1 - stack[top - 1];
                } else if (step == Script.SKIP_IF_SO || step == Script.SKIP_IF_NOT) {
                    boolean so = stack[top - 1] != 0;
                    if (so == (step == Script.SKIP_IF_SO)) {
                        next = Math.max(next, with);
                    } else {
                        top--;
                    }
                } else if (top < 2) {
                    broken = true;
                } else {
                    top--;
                    stack[top - 1] = combine(step, stack[top - 1], stack[top]);
                }
            }
            return broken || top < 1 ? 0 : stack[top - 1];
        }

        private int combine(int step, long left, long right) {
            long value = 0;
            switch (step) {
                case Script.ADD:
                    value = left + right;
                    break;
                case Script.SUBTRACT:
                    value = left - right;
                    break;
                case Script.MULTIPLY:
                    value = left * right;
                    break;
                case Script.DIVIDE:
                    broken = right == 0;
                    value = right == 0 ? 0 : left / right;
                    break;
                case Script.REMAINDER:
                    broken = right == 0;
                    value = right == 0 ? 0 : left % right;
                    break;
                case Script.LESS:
                    value = left < right ? 1 : 0;
                    break;
                case Script.MORE:
                    value = left > right ? 1 : 0;
                    break;
                default:
                    value = left == right ? 1 : 0;
                    break;
            }
            broken = broken || value > MOST || value < -MOST;
            return broken ? 0 : (int) value;
        }
    }

    /** What a law tells of a house, or of two, at an hour. */
    private static final class Court {
        private static final int WORDS = 9;
        private static final int OTHER = 8;

        private final Machine machine = new Machine();
        private final int[] words = new int[WORDS];

        /** The house that laws are asked of, with a fire, so many hours from now. */
        private void face(Town town, int house, int fire, int hours) {
            int hour = town.terms[HOUR] + hours;
            words[0] = house;
            words[1] = town.fact(house, NOTE);
            words[2] = town.fact(house, STREET);
            words[3] = fire;
            words[4] = town.fact(house, COAL);
            words[5] = hour % HOURS;
            words[6] = town.terms[DAY] + hour / HOURS;
            words[7] = town.terms[MOOD];
            words[OTHER] = NONE;
        }

        private void facing(int note) {
            words[OTHER] = note;
        }

        /** What the last clause of that kind tells that holds. */
        private int told(Script law, int verb) {
            if (law == null) {
                return WITHOUT_LAW[verb];
            }
            for (int clause = law.clauses - 1; clause >= 0; clause--) {
                if (law.head(clause, Script.VERB) != verb) {
                    continue;
                }
                int test = law.head(clause, Script.TEST);
                if (test != NONE && (machine.run(law.code, test, words) == 0 || machine.broken)) {
                    continue;
                }
                if (verb == BARS) {
                    return 1;
                }
                int value = machine.run(law.code, law.head(clause, Script.FIRST), words);
                if (!machine.broken) {
                    return Math.max(0, Math.min(MOST_BY_LAW[verb], value));
                }
            }
            return WITHOUT_LAW[verb];
        }
    }

    /** What is done in a town, or in one on paper: what stands then, or by what it is refused. */
    private static final class Works {
        private final Court court = new Court();

        private int kindle(Town town, int house) {
            if (!town.has(house)) {
                return NO_SUCH;
            }
            int coal = town.fact(house, COAL);
            int fire = town.fact(house, FIRE);
            court.face(town, house, fire, 0);
            if (coal < 1 || court.told(town.lawInForce(), BARS) == 1) {
                return CANNOT;
            }
            int flared = Math.min(MOST_FIRE, fire + court.told(town.lawInForce(), FLARES));
            town.put(house, COAL, coal - 1);
            town.put(house, FIRE, flared);
            return flared;
        }

        private int quench(Town town, int house, int by) {
            if (!within(by, 1, MOST_FIRE)) {
                return BAD_NUMBER;
            }
            if (!town.has(house)) {
                return NO_SUCH;
            }
            int fire = Math.max(0, town.fact(house, FIRE) - by);
            town.put(house, FIRE, fire);
            return fire;
        }

        private int supply(Town town, int house, int coal) {
            if (!within(coal, 1, MOST_COAL)) {
                return BAD_NUMBER;
            }
            if (!town.has(house)) {
                return NO_SUCH;
            }
            int stock = Math.min(MOST_COAL, town.fact(house, COAL) + coal);
            town.put(house, COAL, stock);
            return stock;
        }

        private int nextHour(Town town) {
            boolean lastOfDay = town.terms[HOUR] == HOURS - 1;
            if (lastOfDay && town.terms[DAY] >= LAST_DAY) {
                return CANNOT;
            }
            int met = town.meetsChord() ? 1 : 0;
            town.fines = Math.min(MOST_FINES, town.fines + discords(town));
            burnDown(town);
            town.terms[HOUR] = lastOfDay ? 0 : town.terms[HOUR] + 1;
            town.terms[DAY] += lastOfDay ? 1 : 0;
            return met;
        }

        /** No house's law sees another house's fire, so each may warm and burn down in turn. */
        private void burnDown(Town town) {
            for (int h = 0; h < town.houses; h++) {
                int fire = town.fact(h, FIRE);
                court.face(town, h, fire, 0);
                town.put(h, WARMTH, Math.min(MOST_WARMTH, town.fact(h, WARMTH) + fire));
                town.put(h, FIRE, Math.max(0, fire - court.told(town.lawInForce(), BURNS)));
            }
        }

        private int discords(Town town) {
            int total = 0;
            for (int low = 0; low < town.houses; low++) {
                for (int high = low + 1; high < town.houses; high++) {
                    if (town.sings(low) && town.sings(high) && town.beside(low, high)) {
                        court.face(town, low, town.fact(low, FIRE), 0);
                        court.facing(town.fact(high, NOTE));
                        total += court.told(town.lawInForce(), FINES);
                    }
                }
            }
            return total;
        }

        private int byDraws(Town town, int seed, int n) {
            int s = seed;
            int met = 0;
            for (int i = 0; i < n; i++) {
                if (town.houses > 0) {
                    s = (int) ((s * 1103L + 12345L) % 1_000_003L);
                    kindle(town, s % town.houses);
                }
                int passed = nextHour(town);
                if (passed < 0) {
                    return met;
                }
                met += passed;
            }
            return met;
        }
    }

    /** What can be undone: of each act its kind and what stood ahead of it. */
    private static final class History {
        private static final int KEPT = 16;
        // one slot more than are kept, so that a draft never overwrites what can still be undone
        private static final int SLOTS = KEPT + 1;
        private static final int HOUSE_FACTS = 3;
        private static final int SLOT = 4 + HOUSE_FACTS * HOUSES;

        private final int[] slots = new int[SLOTS * SLOT];
        private int drafted = 0;
        private int kept = 0;

        private void clear() {
            kept = 0;
        }

        private void become(History other) {
            System.arraycopy(other.slots, 0, slots, 0, slots.length);
            drafted = other.drafted;
            kept = other.kept;
        }

        private static int changing(int i) {
            return i == 0 ? COAL : i == 1 ? FIRE : WARMTH;
        }

        private void draft(Town town) {
            int at = drafted * SLOT;
            slots[at + 1] = town.fines;
            slots[at + 2] = town.terms[HOUR];
            slots[at + 3] = town.terms[DAY];
            for (int i = 0; i < HOUSE_FACTS; i++) {
                System.arraycopy(town.facts, changing(i) * HOUSES, slots, at + 4 + i * HOUSES, HOUSES);
            }
        }

        private void keep(int kind) {
            slots[drafted * SLOT] = kind;
            drafted = (drafted + 1) % SLOTS;
            kept = Math.min(KEPT, kept + 1);
        }

        private int takeBack(Town town) {
            if (kept == 0) {
                return NONE;
            }
            kept--;
            drafted = (drafted + SLOTS - 1) % SLOTS;
            int at = drafted * SLOT;
            town.fines = slots[at + 1];
            town.terms[HOUR] = slots[at + 2];
            town.terms[DAY] = slots[at + 3];
            for (int i = 0; i < HOUSE_FACTS; i++) {
                System.arraycopy(slots, at + 4 + i * HOUSES, town.facts, changing(i) * HOUSES, HOUSES);
            }
            return slots[at];
        }
    }

    /** Carries orders out, wholly or not at all. */
    private static final class Crew {
        private static final int FIRE_WORD = 5;
        private static final int COAL_WORD = FIRE_WORD + HOUSES;
        private static final int SOUNDS_WORD = COAL_WORD + HOUSES;
        private static final int WORDS = SOUNDS_WORD + NOTES;

        private final Works works = new Works();
        private final Machine machine = new Machine();
        private final int[] words = new int[WORDS];
        private final Town townBefore = new Town();
        private final History historyBefore = new History();
        private int done = 0;
        private int met = NONE;
        private int stopped = NONE;

        private int carryOut(Script text, Town town, History history) {
            townBefore.become(town);
            historyBefore.become(history);
            done = 0;
            met = NONE;
            for (int clause = 0; clause < text.clauses; clause++) {
                int times = text.head(clause, Script.TIMES);
                for (int i = 0; i < times; i++) {
                    if (!turn(text, clause, town, history)) {
                        stopped = clause;
                        town.become(townBefore);
                        history.become(historyBefore);
                        return CANNOT;
                    }
                }
            }
            return done;
        }

        private boolean turn(Script text, int clause, Town town, History history) {
            look(town);
            int test = text.head(clause, Script.TEST);
            if (test != NONE && (machine.run(text.code, test, words) == 0 || machine.broken)) {
                return true;
            }
            int verb = text.head(clause, Script.VERB);
            int house = verb == PASS ? NONE : machine.run(text.code, text.head(clause, Script.FIRST), words);
            if (verb != PASS && machine.broken) {
                return false;
            }
            boolean measured = verb == DAMP || verb == BUY;
            int by = measured ? machine.run(text.code, text.head(clause, Script.SECOND), words) : 0;
            if (measured && machine.broken) {
                return false;
            }
            history.draft(town);
            int answer;
            switch (verb) {
                case STOKE:
                    answer = works.kindle(town, house);
                    break;
                case DAMP:
                    answer = works.quench(town, house, by);
                    break;
                case BUY:
                    answer = works.supply(town, house, by);
                    break;
                default:
                    answer = works.nextHour(town);
                    met = answer;
                    break;
            }
            if (answer < 0) {
                return false;
            }
            history.keep(verb);
            done++;
            return true;
        }

        private void look(Town town) {
            words[0] = town.terms[HOUR];
            words[1] = town.terms[DAY];
            words[2] = town.fines;
            words[3] = done;
            words[4] = met;
            for (int n = 0; n < NOTES; n++) {
                words[SOUNDS_WORD + n] = 0;
            }
            for (int h = 0; h < HOUSES; h++) {
                boolean there = town.has(h);
                words[FIRE_WORD + h] = there ? town.fact(h, FIRE) : NONE;
                words[COAL_WORD + h] = there ? town.fact(h, COAL) : NONE;
                int place = SOUNDS_WORD + town.fact(h, NOTE);
                if (there && town.sings(h) && place >= SOUNDS_WORD && place < WORDS) {
                    words[place]++;
                }
            }
        }
    }

    /** Coal over hours to come, on paper. */
    private static final class Plan {
        private static final int MOST_HOURS = 12;
        private static final int MOST_STOKES = 2;
        private static final int FIRES = MOST_FIRE + 1;
        private static final int NEVER = 1_000;

        private final Court court = new Court();
        private final int[] burns = new int[FIRES];
        private final int[] flared = new int[FIRES];
        // by hour and fire ahead of it: the least coal from there on, how often to stoke, the fire behind it
        private final int[] coal = new int[(MOST_HOURS + 1) * FIRES];
        private final int[] stokes = new int[MOST_HOURS * FIRES];
        private final int[] after = new int[MOST_HOURS * FIRES];

        private int leastCoal(Town town, int house, int n, int hours, int i) {
            for (int fire = 0; fire < FIRES; fire++) {
                coal[n * FIRES + fire] = 0;
            }
            for (int t = n - 1; t >= 0; t--) {
                askHour(town, house, t);
                for (int fire = 0; fire < FIRES; fire++) {
                    settleHour(town, t, fire, (hours >> t & 1) == 1);
                }
            }
            int now = town.fact(house, FIRE);
            if (!within(now, 0, MOST_FIRE) || coal[now] >= NEVER) {
                return NONE;
            }
            for (int t = 0; t < i; t++) {
                now = after[t * FIRES + now];
            }
            return i == NONE ? coal[now] : stokes[i * FIRES + now];
        }

        private void askHour(Town town, int house, int t) {
            Script law = town.lawInForce();
            for (int fire = 0; fire < FIRES; fire++) {
                court.face(town, house, fire, t);
                burns[fire] = court.told(law, BURNS);
                boolean barred = court.told(law, BARS) == 1;
                flared[fire] = barred ? NONE : Math.min(MOST_FIRE, fire + court.told(law, FLARES));
            }
        }

        /** Fewer stokes are tried first, so the first row of the least ones is found. */
        private void settleHour(Town town, int t, int fire, boolean wanted) {
            int at = t * FIRES + fire;
            int now = fire;
            coal[at] = NEVER;
            for (int s = 0; s <= MOST_STOKES && now != NONE; s++) {
                if (town.loud(now) == wanted) {
                    int behind = Math.max(0, now - burns[now]);
                    int needed = s + coal[(t + 1) * FIRES + behind];
                    if (needed < coal[at]) {
                        coal[at] = needed;
                        stokes[at] = s;
                        after[at] = behind;
                    }
                }
                now = flared[now];
            }
        }

        private int coalBy(Town town, Script law, int n) {
            int total = 0;
            for (int h = 0; h < town.houses; h++) {
                int fire = town.fact(h, FIRE);
                for (int t = 0; t < n; t++) {
                    if (fire < town.terms[LOW]) {
                        court.face(town, h, fire, t);
                        fire = Math.min(MOST_FIRE, fire + court.told(law, FLARES));
                        total++;
                    }
                    court.face(town, h, fire, t);
                    fire = Math.max(0, fire - court.told(law, BURNS));
                }
            }
            return total;
        }
    }

    /** Dinners, tunings, the hill and the wind, on paper. */
    private static final class Paper {
        private static final long WHOLE = 1_000_000_000_000L;

        private final int[] dinners = new int[HOUSES];
        private final int[] pointed = new int[HOUSES];
        private final int[] best = new int[HOUSES];
        private final int[] row = new int[HOUSES];
        private final int[] setNotes = new int[1 << HOUSES];

        private int swapped(Town town, int house) {
            int left = (1 << town.houses) - 1;
            for (int round = 0; round < HOUSES && left != 0; round++) {
                for (int h = 0; h < town.houses; h++) {
                    pointed[h] = favourite(town, h, left);
                }
                left &= ~ring(town, left);
            }
            return within(house, 0, HOUSES - 1) ? dinners[house] : NONE;
        }

        private int favourite(Town town, int house, int left) {
            int found = house;
            int least = HOUSES * HOUSES;
            for (int h = 0; h < town.houses; h++) {
                int dinner = town.fact(h, DINNER);
                // an hour apart weighs more than any dinner's number, so the lower one of alike ones is ahead
                int rank = Math.abs(dinner - town.fact(house, WANTED)) * HOUSES + dinner;
                if ((left >> h & 1) == 1 && rank < least) {
                    least = rank;
                    found = h;
                }
            }
            return found;
        }

        /** One ring of those that are left; which one is taken first makes no odds. */
        private int ring(Town town, int left) {
            int h = 0;
            while (h < town.houses - 1 && (left >> h & 1) == 0) {
                h++;
            }
            for (int i = 0; i < HOUSES; i++) {
                h = pointed[h];
            }
            int out = 0;
            for (int i = 0; i < HOUSES && (out >> h & 1) == 0; i++) {
                out |= 1 << h;
                dinners[h] = town.fact(pointed[h], DINNER);
                h = pointed[h];
            }
            return out;
        }

        /** Which notes agree is tried; with them each house goes to the nearest one. */
        private int retune(Town town, int street) {
            int least = NOTES * HOUSES;
            for (int notes = 1; notes <= ALL_NOTES; notes++) {
                int turned = (notes << 1 | notes >> NOTES - 1) & ALL_NOTES;
                if ((notes & turned) == 0) {
                    int moved = fill(town, street, notes);
                    if (moved < least || moved == least && ahead(town.houses)) {
                        least = moved;
                        System.arraycopy(row, 0, best, 0, HOUSES);
                    }
                }
            }
            return least;
        }

        private int fill(Town town, int street, int notes) {
            int moved = 0;
            for (int h = 0; h < town.houses; h++) {
                row[h] = town.fact(h, NOTE);
                if (town.fact(h, STREET) == street) {
                    row[h] = nearest(town.fact(h, NOTE), notes);
                    moved += apart(row[h], town.fact(h, NOTE));
                }
            }
            return moved;
        }

        private static int nearest(int note, int notes) {
            int found = note;
            int least = NOTES;
            for (int n = 0; n < NOTES; n++) {
                if ((notes >> n & 1) == 1 && apart(n, note) < least) {
                    least = apart(n, note);
                    found = n;
                }
            }
            return found;
        }

        private static int apart(int note, int other) {
            int way = Math.abs(note - other);
            return Math.min(way, NOTES - way);
        }

        private boolean ahead(int houses) {
            for (int h = 0; h < houses; h++) {
                if (row[h] != best[h]) {
                    return row[h] < best[h];
                }
            }
            return false;
        }

        private int tunedNote(int house) {
            return within(house, 0, HOUSES - 1) ? best[house] : NONE;
        }

        /** Tells of each set of houses which notes are in it; how many sets there are. */
        private int mapSets(Town town) {
            int sets = 1;
            for (int h = 0; h < town.houses && h < HOUSES; h++) {
                for (int set = 0; set < sets; set++) {
                    setNotes[sets + set] = setNotes[set] | 1 << town.fact(h, NOTE);
                }
                sets *= 2;
            }
            return sets;
        }

        private int hillSet(Town town, int i) {
            int sets = mapSets(town);
            int total = 0;
            for (int set = 0; set < sets; set++) {
                if (setNotes[set] == town.heardNotes) {
                    if (total == i) {
                        return set;
                    }
                    total++;
                }
            }
            return i == NONE ? total : NONE;
        }

        private int question(Town town, int what) {
            int all = hillSet(town, NONE);
            int house = NONE;
            int least = all + 1;
            for (int h = 0; h < town.houses && all > 0; h++) {
                int burning = burningSets(town, h);
                int more = Math.max(burning, all - burning);
                if (more < least) {
                    least = more;
                    house = h;
                }
            }
            return house == NONE || what == 0 ? house : least;
        }

        private int burningSets(Town town, int house) {
            int total = 0;
            for (int set = 0; set < 1 << town.houses && set < setNotes.length; set++) {
                if ((set >> house & 1) == 1 && setNotes[set] == town.heardNotes) {
                    total++;
                }
            }
            return total;
        }

        private long odds(Town town, int notes) {
            long left = WHOLE;
            for (int n = 0; n < NOTES; n++) {
                if ((notes >> n & 1) == 1) {
                    left -= muted(town, n, left);
                }
            }
            return left;
        }

        private static long muted(Town town, int note, long whole) {
            long part = whole;
            for (int h = 0; h < town.houses; h++) {
                if (town.fact(h, NOTE) == note && town.sings(h)) {
                    part = part * town.terms[WIND] / 10;
                }
            }
            return part;
        }
    }
}
